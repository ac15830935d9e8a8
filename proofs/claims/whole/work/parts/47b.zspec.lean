section ZSP
/-- the transforms, by their sums -/
def vFw (p n : Int) (X : Int → Int) (k : Int) : Int := sumR p n (zRoot p n) X k * 1 % p
def vBk (p n : Int) (X : Int → Int) (k : Int) : Int := sumR p n (pwm (zRoot p n) (p - 2) p) X k * pwm n (p - 2) p % p
theorem vFw_of {p n : Int} {pw : Int → Int} (h : zPN p n) (hw : zPW p n pw) {X : Int → Int} {k : Int} (hk : 0 ≤ k) : dft p n pw n 1 X k = vFw p n X k := by
  unfold vFw
  rw [Int.mul_one, sumR_fwd h hw hk, dft_mod]
theorem vBk_of {p n : Int} {pw : Int → Int} (h : zPN p n) (hw : zPW p n pw) {X : Int → Int} {k : Int} (hk : 0 ≤ k) : dft p n pw n (n - 1) X k * zInv p n % p = vBk p n X k := by
  unfold vBk
  rw [sumR_back h hw hk]
  rfl
theorem vFw_rng {p n : Int} {X : Int → Int} {k : Int} (hp : 2 ≤ p) : 0 ≤ vFw p n X k ∧ vFw p n X k < p := z_rem (by omega)
theorem vBk_rng {p n : Int} {X : Int → Int} {k : Int} (hp : 2 ≤ p) : 0 ≤ vBk p n X k ∧ vBk p n X k < p := z_rem (by omega)
/-- a linear convolution of two rows -/
def zLn (G : Int → Int → Int) (c : Int → Int) (a b k : Int) : Int := zT (fun j => G a j * G b (k - j)) (c a)
theorem zLn_ar (ar : zk → Int → Int) (c : Int → Int) (a b : Int) : lin (ar (1, a)) (c a) (ar (1, b)) (c b) = zLn (zG ar c) c a b := rfl
/-- which exception a call throws, 0 for none -/
def zRw (a : Int) : Prop := 0 ≤ a ∧ a < 4
def kAppend (c : Int → Int) (a x : Int) : Int := if ¬ (0 ≤ a ∧ a < 4) then 1 else if ¬ (-9999 ≤ x ∧ x ≤ 9999) then 2 else if c a = 64 then 3 else 0
def kRow (a : Int) : Int := if ¬ (0 ≤ a ∧ a < 4) then 1 else 0
def kCopy (a t : Int) : Int := if ¬ (0 ≤ a ∧ a < 4) then 1 else if ¬ (0 ≤ t ∧ t < 4) then 1 else 0
def kAt (c : Int → Int) (a x : Int) : Int := if ¬ (0 ≤ a ∧ a < 4) then 1 else if ¬ (0 ≤ x ∧ x < c a) then 1 else 0
def kPlan (np p n : Int) : Int := if p < 3 then 1 else if 9973 < p then 1 else if ¬ (1 < p ∧ lfac p = p) then 1 else if n < 1 then 1 else if 64 < n then 1 else if (p - 1) % n ≠ 0 then 1 else if np = 8 then 2 else 0
def kPl (np i : Int) : Int := if ¬ (0 ≤ i ∧ i < np) then 1 else 0
def kTr (c : Int → Int) (np : Int) (pn : Int → Int) (i a w : Int) : Int := if ¬ (0 ≤ i ∧ i < np) then 1 else if ¬ (0 ≤ a ∧ a < 4) then 1 else if ¬ (0 ≤ w ∧ w ≤ 4 ∧ wset (pn i) / 2 ^ w.toNat % 2 = 1) then 2 else if pn i < c a then 3 else 0
def kSum (c : Int → Int) (np : Int) (pn : Int → Int) (i a x : Int) : Int := if ¬ (0 ≤ i ∧ i < np) then 1 else if ¬ (0 ≤ a ∧ a < 4) then 1 else if ¬ (0 ≤ x ∧ x < pn i) then 1 else if pn i < c a then 2 else 0
def kConv (c : Int → Int) (np : Int) (pn : Int → Int) (i a b t : Int) : Int := if ¬ (0 ≤ i ∧ i < np) then 1 else if ¬ (0 ≤ a ∧ a < 4) then 1 else if ¬ (0 ≤ b ∧ b < 4) then 1 else if ¬ (0 ≤ t ∧ t < 4) then 1 else if pn i < c a then 2 else if pn i < c b then 2 else 0
def kConvd (c : Int → Int) (np : Int) (pn : Int → Int) (i a b x : Int) : Int := if ¬ (0 ≤ i ∧ i < np) then 1 else if ¬ (0 ≤ a ∧ a < 4) then 1 else if ¬ (0 ≤ b ∧ b < 4) then 1 else if ¬ (0 ≤ x ∧ x < pn i) then 1 else if pn i < c a then 2 else if pn i < c b then 2 else 0
def zWb (G : Int → Int → Int) (c : Int → Int) (lo hi a : Int) : Bool := zAll (fun k => decide (lo ≤ G a k ∧ G a k ≤ hi)) (c a).toNat
def kFilter (G : Int → Int → Int) (c : Int → Int) (a b t bl : Int) : Int := if ¬ (0 ≤ a ∧ a < 4) then 1 else if ¬ (0 ≤ b ∧ b < 4) then 1 else if ¬ (0 ≤ t ∧ t < 4) then 1 else if ¬ (1 ≤ bl ∧ bl ≤ 32) then 2 else if ¬ zWb G c (-99) 99 a = true then 2 else if ¬ zWb G c (-99) 99 b = true then 2 else if c a = 0 then 3 else if c b = 0 then 3 else if 65 < c a + c b then 3 else 0
def kMult (G : Int → Int → Int) (c : Int → Int) (a b t : Int) : Int := if ¬ (0 ≤ a ∧ a < 4) then 1 else if ¬ (0 ≤ b ∧ b < 4) then 1 else if ¬ (0 ≤ t ∧ t < 4) then 1 else if ¬ zWb G c 0 9 a = true then 2 else if ¬ zWb G c 0 9 b = true then 2 else if c a = 0 then 3 else if c b = 0 then 3 else if 64 < c a + c b then 3 else 0
theorem zWb_iff {g : Int → Int → Int} {c : Int → Int} {lo hi a : Int} (hc : 0 ≤ c a) : zWb (fun r => rowAt (g r) (c r)) c lo hi a = true ↔ ∀ k, 0 ≤ k → k < c a → lo ≤ g a k ∧ g a k ≤ hi := by
  unfold zWb
  rw [zAll_iff]
  constructor
  · intro h k h1 h2
    have q := of_decide_eq_true (h k h1 (by omega))
    dsimp only at q
    rw [rowAt_in ⟨h1, h2⟩] at q
    exact q
  · intro h k h1 h2
    have h3 : k < c a := by omega
    refine decide_eq_true ?_
    dsimp only
    rw [rowAt_in ⟨h1, h3⟩]
    exact h k h1 h3
theorem zWb_ar {ar : zk → Int → Int} {c : Int → Int} {lo hi a : Int} (hc : 0 ≤ c a) : zWb (zG ar c) c lo hi a = true ↔ ∀ k, 0 ≤ k → k < c a → lo ≤ ar (1, a) k ∧ ar (1, a) k ≤ hi := zWb_iff (g := fun r => ar (1, r)) hc
end ZSP
