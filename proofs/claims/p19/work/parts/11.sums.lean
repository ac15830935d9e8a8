section SU
/-- sums over 0 .. n-1 -/
def zS (f : Int → Int) : Nat → Int
  | 0 => 0
  | n + 1 => zS f n + f n
def zT (f : Int → Int) (n : Int) : Int := zS f n.toNat
theorem zT_0 (f : Int → Int) : zT f 0 = 0 := rfl
theorem zT_neg (f : Int → Int) {n : Int} (h : n ≤ 0) : zT f n = 0 := by
  unfold zT
  rw [show n.toNat = 0 by omega]
  rfl
theorem zT_s (f : Int → Int) {n : Int} (h : 0 ≤ n) : zT f (n + 1) = zT f n + f n := by
  unfold zT
  rw [show (n + 1).toNat = n.toNat + 1 by omega]
  show zS f n.toNat + f (n.toNat : Int) = _
  rw [Int.toNat_of_nonneg h]
theorem z_ind {P : Int → Prop} (h0 : P 0) (hs : ∀ n, 0 ≤ n → P n → P (n + 1)) : ∀ n, 0 ≤ n → P n := by
  intro n hn
  have key : ∀ k : Nat, P (k : Int) := by
    intro k
    induction k with
    | zero => exact h0
    | succ k ih => exact hs k (by omega) ih
  have h := key n.toNat
  rw [Int.toNat_of_nonneg hn] at h
  exact h
theorem zT_congr {f g : Int → Int} {n : Int} (h : ∀ j, 0 ≤ j → j < n → f j = g j) : zT f n = zT g n := by
  rcases Int.lt_or_le n 0 with q | q
  · rw [zT_neg f (by omega), zT_neg g (by omega)]
  · revert h
    refine z_ind (P := fun n => (∀ j, 0 ≤ j → j < n → f j = g j) → zT f n = zT g n) (fun _ => rfl) ?_ n q
    intro k hk ih h
    rw [zT_s f hk, zT_s g hk, ih (fun j h1 h2 => h j h1 (by omega)), h k hk (by omega)]
theorem zT_bound {f : Int → Int} {n B : Int} (hn : 0 ≤ n) (h : ∀ j, 0 ≤ j → j < n → 0 ≤ f j ∧ f j ≤ B) : 0 ≤ zT f n ∧ zT f n ≤ n * B := by
  revert h
  refine z_ind (P := fun n => (∀ j, 0 ≤ j → j < n → 0 ≤ f j ∧ f j ≤ B) → 0 ≤ zT f n ∧ zT f n ≤ n * B) (fun _ => by simp [zT_0]) ?_ n hn
  intro k hk ih h
  have h1 := ih (fun j a b => h j a (by omega))
  have h2 := h k hk (by omega)
  rw [zT_s f hk, Int.add_mul, Int.one_mul]
  omega
theorem zT_bound2 {f : Int → Int} {n B : Int} (hn : 0 ≤ n) (h : ∀ j, 0 ≤ j → j < n → -B ≤ f j ∧ f j ≤ B) : -(n * B) ≤ zT f n ∧ zT f n ≤ n * B := by
  revert h
  refine z_ind (P := fun n => (∀ j, 0 ≤ j → j < n → -B ≤ f j ∧ f j ≤ B) → -(n * B) ≤ zT f n ∧ zT f n ≤ n * B) (fun _ => by simp [zT_0]) ?_ n hn
  intro k hk ih h
  have h1 := ih (fun j a b => h j a (by omega))
  have h2 := h k hk (by omega)
  rw [zT_s f hk, Int.add_mul, Int.one_mul]
  omega
theorem zT_add (f g : Int → Int) (n : Int) : zT (fun j => f j + g j) n = zT f n + zT g n := by
  rcases Int.lt_or_le n 0 with q | q
  · rw [zT_neg _ (by omega), zT_neg _ (by omega), zT_neg _ (by omega)]; rfl
  · refine z_ind (P := fun n => zT (fun j => f j + g j) n = zT f n + zT g n) rfl ?_ n q
    intro k hk ih
    rw [zT_s _ hk, zT_s _ hk, zT_s _ hk, ih]
    omega
theorem zT_mul (c : Int) (f : Int → Int) (n : Int) : zT (fun j => c * f j) n = c * zT f n := by
  rcases Int.lt_or_le n 0 with q | q
  · rw [zT_neg _ (by omega), zT_neg _ (by omega), Int.mul_zero]
  · refine z_ind (P := fun n => zT (fun j => c * f j) n = c * zT f n) (by rw [zT_0, zT_0, Int.mul_zero]) ?_ n q
    intro k hk ih
    rw [zT_s _ hk, zT_s _ hk, ih, Int.mul_add]
theorem zT_mulr (c : Int) (f : Int → Int) (n : Int) : zT (fun j => f j * c) n = zT f n * c := by
  rw [Int.mul_comm, ← zT_mul]
  exact zT_congr (fun j _ _ => Int.mul_comm _ _)
theorem zT_zero {f : Int → Int} {n : Int} (h : ∀ j, 0 ≤ j → j < n → f j = 0) : zT f n = 0 := by
  rw [zT_congr (g := fun _ => 0 * 0) h, zT_mul 0 (fun _ => 0), Int.zero_mul]
theorem zT_mod {f g : Int → Int} {n p : Int} (h : ∀ j, 0 ≤ j → j < n → f j % p = g j % p) : zT f n % p = zT g n % p := by
  rcases Int.lt_or_le n 0 with q | q
  · rw [zT_neg _ (by omega), zT_neg _ (by omega)]
  · revert h
    refine z_ind (P := fun n => (∀ j, 0 ≤ j → j < n → f j % p = g j % p) → zT f n % p = zT g n % p) (fun _ => rfl) ?_ n q
    intro k hk ih h
    rw [zT_s _ hk, zT_s _ hk, Int.add_emod, ih (fun j a b => h j a (by omega)), h k hk (by omega), ← Int.add_emod]
/-- the sum over a and b, in either order -/
theorem zT_swap (f : Int → Int → Int) (n m : Int) : zT (fun i => zT (fun j => f i j) m) n = zT (fun j => zT (fun i => f i j) n) m := by
  rcases Int.lt_or_le n 0 with q | q
  · rw [zT_neg _ (by omega)]
    exact (zT_zero (fun j _ _ => zT_neg _ (by omega))).symm
  · refine z_ind (P := fun n => zT (fun i => zT (fun j => f i j) m) n = zT (fun j => zT (fun i => f i j) n) m) (by rw [zT_0]; exact (zT_zero (fun j _ _ => zT_0 _)).symm) ?_ n q
    intro k hk ih
    rw [zT_s _ hk, ih, ← zT_add]
    exact zT_congr (fun j _ _ => (zT_s _ hk).symm)
/-- one sum cut in two -/
theorem zT_app (f : Int → Int) {a b : Int} (ha : 0 ≤ a) (hb : 0 ≤ b) : zT f (a + b) = zT f a + zT (fun j => f (a + j)) b := by
  refine z_ind (P := fun b => zT f (a + b) = zT f a + zT (fun j => f (a + j)) b) (by rw [Int.add_zero, zT_0, Int.add_zero]) ?_ b hb
  intro k hk ih
  rw [← Int.add_assoc, zT_s _ (by omega), zT_s _ hk, ih, Int.add_assoc]
/-- the index i + a * j, i below a, j below b -/
theorem zT_grid (f : Int → Int) {a b : Int} (ha : 0 ≤ a) (hb : 0 ≤ b) : zT f (a * b) = zT (fun j => zT (fun i => f (i + a * j)) a) b := by
  refine z_ind (P := fun b => zT f (a * b) = zT (fun j => zT (fun i => f (i + a * j)) a) b) (by rw [Int.mul_zero, zT_0, zT_0]) ?_ b hb
  intro k hk ih
  rw [Int.mul_add, Int.mul_one, zT_app f (Int.mul_nonneg ha hk) ha, zT_s _ hk, ih]
  congr 1
  exact zT_congr (fun j _ _ => by rw [Int.add_comm])
theorem zT_grid2 (f : Int → Int) {a b : Int} (ha : 0 ≤ a) (hb : 0 ≤ b) : zT f (a * b) = zT (fun i => zT (fun j => f (i + a * j)) b) a := by
  rw [zT_grid f ha hb]
  exact zT_swap (fun j i => f (i + a * j)) b a
/-- all but one are nothing -/
theorem zT_one {f : Int → Int} {n i : Int} (h0 : 0 ≤ i) (h1 : i < n) (h : ∀ j, 0 ≤ j → j < n → j ≠ i → f j = 0) : zT f n = f i := by
  have e1 : n = i + (1 + (n - i - 1)) := by omega
  rw [e1, zT_app f h0 (by omega), zT_app _ (by omega) (by omega), zT_zero (fun j a b => h j a (by omega) (by omega)), zT_zero (f := fun j => f (i + (1 + j))) (fun j a b => h _ (by omega) (by omega) (by omega)), show (1 : Int) = 0 + 1 from rfl, zT_s _ (Int.le_refl 0), zT_0]
  simp
/-- the other way round -/
theorem zT_rev (f : Int → Int) {n : Int} (hn : 0 ≤ n) : zT f n = zT (fun j => f (n - 1 - j)) n := by
  revert f
  refine z_ind (P := fun n => ∀ f : Int → Int, zT f n = zT (fun j => f (n - 1 - j)) n) (fun f => rfl) ?_ n hn
  intro k hk ih f
  have h1 := zT_app (fun j => f (k + 1 - 1 - j)) (a := 1) (b := k) (by decide) hk
  have h2 : zT (fun j => f (k + 1 - 1 - j)) 1 = f k := by
    have h3 := zT_s (fun j => f (k + 1 - 1 - j)) (Int.le_refl 0)
    rw [zT_0, Int.zero_add, Int.zero_add] at h3
    rw [h3]
    congr 1
    omega
  have h4 : zT (fun j => f (k + 1 - 1 - (1 + j))) k = zT (fun j => f (k - 1 - j)) k := zT_congr (fun j _ _ => by congr 1; omega)
  rw [Int.add_comm 1 k] at h1
  rw [zT_s _ hk, h1, h2, h4, ← ih f, Int.add_comm]
/-- more terms that are nothing -/
theorem zT_ext {f : Int → Int} {n m : Int} (hn : 0 ≤ n) (hm : n ≤ m) (h : ∀ j, n ≤ j → j < m → f j = 0) : zT f m = zT f n := by
  rw [show m = n + (m - n) by omega, zT_app f hn (by omega), zT_zero (f := fun j => f (n + j)) (fun j a b => h _ (by omega) (by omega)), Int.add_zero]
/-- a row's entry, nothing behind its last one -/
def rowAt (g : Int → Int) (c k : Int) : Int := if 0 ≤ k ∧ k < c then g k else 0
theorem rowAt_in {g : Int → Int} {c k : Int} (h : 0 ≤ k ∧ k < c) : rowAt g c k = g k := if_pos h
theorem rowAt_out {g : Int → Int} {c k : Int} (h : ¬ (0 ≤ k ∧ k < c)) : rowAt g c k = 0 := if_neg h
/-- all entries have a property -/
def zAll (f : Int → Bool) : Nat → Bool
  | 0 => true
  | n + 1 => zAll f n && f n
theorem zAll_iff (f : Int → Bool) : ∀ n : Nat, zAll f n = true ↔ ∀ k : Int, 0 ≤ k → k < n → f k = true
  | 0 => ⟨fun _ k h1 h2 => by omega, fun _ => rfl⟩
  | n + 1 => by
    show (zAll f n && f n) = true ↔ _
    rw [Bool.and_eq_true, zAll_iff f n]
    constructor
    · intro h k h1 h2
      by_cases e : k = n
      · rw [e]; exact h.2
      · exact h.1 k h1 (by omega)
    · exact fun h => ⟨fun k h1 h2 => h k h1 (by omega), h n (by omega) (by omega)⟩
/-- filling a row -/
theorem zU_fill {g f : Int → Int} {i v : Int} (h : ∀ k, 0 ≤ k → k < i → g k = f k) (hv : v = f i) : ∀ k, 0 ≤ k → k < i + 1 → zU g i v k = f k := by
  intro k h1 h2
  by_cases e : k = i
  · subst e; rw [zU_s, hv]
  · rw [zU_n g v e]; exact h k h1 (by omega)
theorem zU_keep {g f : Int → Int} {i v : Int} (h : ∀ k, i ≤ k → g k = f k) : ∀ k, i + 1 ≤ k → zU g i v k = f k := by
  intro k h1
  rw [zU_n g v (by omega)]; exact h k (by omega)
theorem rowAt_rng {g : Int → Int} {c k lo hi : Int} (h : ∀ j, 0 ≤ j → j < c → lo ≤ g j ∧ g j ≤ hi) (h0 : lo ≤ 0 ∧ 0 ≤ hi) : lo ≤ rowAt g c k ∧ rowAt g c k ≤ hi := by
  unfold rowAt
  split
  · rename_i q; exact h k q.1 q.2
  · exact h0
/-- the product of two rows as polynomials -/
def lin (a : Int → Int) (ca : Int) (b : Int → Int) (cb k : Int) : Int := zT (fun j => rowAt a ca j * rowAt b cb (k - j)) ca
theorem lin_wide {a b : Int → Int} {ca cb k N : Int} (ha : 0 ≤ ca) (hN : ca ≤ N) : zT (fun j => rowAt a ca j * rowAt b cb (k - j)) N = lin a ca b cb k :=
  zT_ext ha hN (fun j h1 _ => by rw [rowAt_out (by omega), Int.zero_mul])
theorem lin_k {a b : Int → Int} {ca cb k : Int} (ha : 0 ≤ ca) (hk : 0 ≤ k) : lin a ca b cb k = zT (fun j => rowAt a ca j * rowAt b cb (k - j)) (k + 1) := by
  rcases Int.lt_or_le k ca with q | q
  · show zT _ ca = _
    exact zT_ext (by omega) (by omega) (fun j h1 _ => by rw [rowAt_out (g := b) (by omega), Int.mul_zero])
  · exact (lin_wide ha (by omega)).symm
theorem lin_comm {a b : Int → Int} {ca cb k : Int} (ha : 0 ≤ ca) (hb : 0 ≤ cb) (hk : 0 ≤ k) : lin a ca b cb k = lin b cb a ca k := by
  rw [lin_k ha hk, lin_k hb hk, zT_rev _ (by omega)]
  exact zT_congr (fun j _ _ => by rw [Int.mul_comm]; congr 2 <;> omega)
theorem lin_rng {a b : Int → Int} {ca cb k M : Int} (ha : 0 ≤ ca) (hM : 0 ≤ M) (h1 : ∀ j, 0 ≤ j → j < ca → -M ≤ a j ∧ a j ≤ M) (h2 : ∀ j, 0 ≤ j → j < cb → -M ≤ b j ∧ b j ≤ M) : -(ca * (M * M)) ≤ lin a ca b cb k ∧ lin a ca b cb k ≤ ca * (M * M) := by
  refine zT_bound2 ha (fun j _ _ => ?_)
  have q1 := rowAt_rng (k := j) h1 (by omega)
  have q2 := rowAt_rng (k := k - j) h2 (by omega)
  generalize rowAt a ca j = x at q1 ⊢
  generalize rowAt b cb (k - j) = y at q2 ⊢
  have e1 : (M - x) * (M + y) = M * M + M * y - x * M - x * y := by rw [Int.sub_mul, Int.mul_add, Int.mul_add]; omega
  have e2 : (M + x) * (M - y) = M * M - M * y + x * M - x * y := by rw [Int.add_mul, Int.mul_sub, Int.mul_sub]; omega
  have e3 : (M - x) * (M - y) = M * M - M * y - x * M + x * y := by rw [Int.sub_mul, Int.mul_sub, Int.mul_sub]; omega
  have e4 : (M + x) * (M + y) = M * M + M * y + x * M + x * y := by rw [Int.add_mul, Int.mul_add, Int.mul_add]; omega
  have n1 := Int.mul_nonneg (show 0 ≤ M - x by omega) (show 0 ≤ M + y by omega)
  have n2 := Int.mul_nonneg (show 0 ≤ M + x by omega) (show 0 ≤ M - y by omega)
  have n3 := Int.mul_nonneg (show 0 ≤ M - x by omega) (show 0 ≤ M - y by omega)
  have n4 := Int.mul_nonneg (show 0 ≤ M + x by omega) (show 0 ≤ M + y by omega)
  omega
/-- carries and digits -/
def cyN (L : Int → Int) : Nat → Int
  | 0 => 0
  | n + 1 => (cyN L n + L n) / 10
def cyI (L : Int → Int) (k : Int) : Int := cyN L k.toNat
def dgI (L : Int → Int) (k : Int) : Int := (cyI L k + L k) % 10
theorem cyI_s {L : Int → Int} {k : Int} (h : 0 ≤ k) : cyI L (k + 1) = (cyI L k + L k) / 10 := by
  unfold cyI
  rw [show (k + 1).toNat = k.toNat + 1 by omega]
  show (cyN L k.toNat + L (k.toNat : Int)) / 10 = _
  rw [Int.toNat_of_nonneg h]
def ndN (L : Int → Int) : Nat → Int
  | 0 => 1
  | n + 1 => if dgI L n ≠ 0 then (n : Int) + 1 else ndN L n
def ndI (L : Int → Int) (k : Int) : Int := ndN L k.toNat
theorem ndI_s {L : Int → Int} {k : Int} (h : 0 ≤ k) : ndI L (k + 1) = if dgI L k ≠ 0 then k + 1 else ndI L k := by
  unfold ndI
  rw [show (k + 1).toNat = k.toNat + 1 by omega]
  show (if dgI L (k.toNat : Int) ≠ 0 then ((k.toNat : Nat) : Int) + 1 else ndN L k.toNat) = _
  rw [Int.toNat_of_nonneg h]
theorem cyI_rng {L : Int → Int} {M : Int} (hL : ∀ k, 0 ≤ k → 0 ≤ L k ∧ L k ≤ M) (k : Int) (hk : 0 ≤ k) : 0 ≤ cyI L k ∧ cyI L k ≤ M := by
  have hM : 0 ≤ M := by have := hL 0 (Int.le_refl 0); omega
  refine z_ind (P := fun k => 0 ≤ cyI L k ∧ cyI L k ≤ M) ?_ ?_ k hk
  · show 0 ≤ (0 : Int) ∧ (0 : Int) ≤ M
    omega
  · intro n hn ih
    rw [cyI_s hn]
    have := hL n hn
    omega
theorem ndI_rng {L : Int → Int} (k : Int) (hk : 1 ≤ k) : 1 ≤ ndI L k ∧ ndI L k ≤ k := by
  have key : ∀ k, 0 ≤ k → 1 ≤ ndI L k ∧ ndI L k ≤ max k 1 := by
    refine z_ind ?_ ?_
    · show 1 ≤ (1 : Int) ∧ (1 : Int) ≤ max 0 1
      omega
    · intro n hn ih
      rw [ndI_s hn]
      split <;> omega
  have := key k (by omega)
  omega
theorem lin_nn {a b : Int → Int} {ca cb k : Int} (ha : 0 ≤ ca ∧ ca ≤ 64) (h1 : ∀ j, 0 ≤ j → j < ca → 0 ≤ a j ∧ a j ≤ 9) (h2 : ∀ j, 0 ≤ j → j < cb → 0 ≤ b j ∧ b j ≤ 9) : 0 ≤ lin a ca b cb k ∧ lin a ca b cb k ≤ 5184 := by
  have h := zT_bound (f := fun j => rowAt a ca j * rowAt b cb (k - j)) (n := ca) (B := 81) ha.1 (fun j _ _ => by
    have q1 := rowAt_rng (k := j) h1 (by omega)
    have q2 := rowAt_rng (k := k - j) h2 (by omega)
    exact z_mulb (A := 9) (B := 9) q1.1 q2.1 q1.2 q2.2)
  exact ⟨h.1, by have h2 := h.2; show zT _ ca ≤ 5184; omega⟩
end SU
