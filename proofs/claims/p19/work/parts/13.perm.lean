section PE
theorem fb_holes : ∀ (m n : Nat) (f : Nat → Nat), (∀ i, i < n → f i < m) → (∀ i j, i < j → j < n → f i ≠ f j) → n ≤ m := by
  intro m
  induction m with
  | zero =>
    intro n f h1 _
    rcases Nat.eq_zero_or_pos n with h | h
    · omega
    · exact absurd (h1 0 h) (Nat.not_lt_zero _)
  | succ m ih =>
    intro n f h1 h2
    by_cases hx : ∃ i, i < n ∧ f i = m
    · obtain ⟨a, ha, hfa⟩ := hx
      have hg := ih (n - 1) (fun i => if i < a then f i else f (i + 1)) (by
        intro i hi
        by_cases q : i < a
        · simp only [if_pos q]
          have b1 := h1 i (by omega)
          have b2 := h2 i a q ha
          omega
        · simp only [if_neg q]
          have b1 := h1 (i + 1) (by omega)
          have b2 := h2 a (i + 1) (by omega) (by omega)
          omega) (by
        intro i j hij hj
        by_cases q : i < a
        · by_cases r : j < a
          · simp only [if_pos q, if_pos r]
            exact h2 i j hij (by omega)
          · simp only [if_pos q, if_neg r]
            exact h2 i (j + 1) (by omega) (by omega)
        · have r : ¬ j < a := by omega
          simp only [if_neg q, if_neg r]
          exact h2 (i + 1) (j + 1) (by omega) (by omega))
      omega
    · have hg := ih n f (fun i hi => by
        have b1 := h1 i hi
        have b2 : f i ≠ m := fun e => hx ⟨i, hi, e⟩
        omega) h2
      omega
theorem z_onto {σ : Int → Int} {n : Int} (h0 : ∀ t, 0 ≤ t → t < n → 0 ≤ σ t ∧ σ t < n) (hi : ∀ s t, 0 ≤ s → s < n → 0 ≤ t → t < n → σ s = σ t → s = t) {y : Int} (hy : 0 ≤ y ∧ y < n) : ∃ t, 0 ≤ t ∧ t < n ∧ σ t = y := by
  refine Classical.byContradiction fun hno => ?_
  have hne : ∀ t, 0 ≤ t → t < n → σ t ≠ y := fun t h1 h2 h3 => hno ⟨t, h1, h2, h3⟩
  have h := fb_holes (n - 1).toNat n.toNat (fun i => if σ i < y then (σ i).toNat else (σ i - 1).toNat) (fun i hi1 => by
    have a1 := h0 i (by omega) (by omega)
    have a2 := hne i (by omega) (by omega)
    show (if σ i < y then (σ i).toNat else (σ i - 1).toNat) < _
    split <;> omega) (fun i j hij hj => by
    have a1 := h0 i (by omega) (by omega)
    have a2 := hne i (by omega) (by omega)
    have b1 := h0 j (by omega) (by omega)
    have b2 := hne j (by omega) (by omega)
    have c1 : σ i ≠ σ j := fun q => by have := hi i j (by omega) (by omega) (by omega) (by omega) q; omega
    show (if σ i < y then (σ i).toNat else (σ i - 1).toNat) ≠ (if σ j < y then (σ j).toNat else (σ j - 1).toNat)
    split <;> split <;> omega)
  omega
theorem zT_perm {σ : Int → Int} {n : Int} (h0 : ∀ t, 0 ≤ t → t < n → 0 ≤ σ t ∧ σ t < n) (hi : ∀ s t, 0 ≤ s → s < n → 0 ≤ t → t < n → σ s = σ t → s = t) (f : Int → Int) : zT (fun t => f (σ t)) n = zT f n := by
  have e1 : zT (fun t => f (σ t)) n = zT (fun t => zT (fun j => if j = σ t then f j else 0) n) n := by
    refine zT_congr (fun t h1 h2 => ?_)
    have a := h0 t h1 h2
    rw [zT_one (i := σ t) a.1 a.2 (fun j _ _ hj => if_neg hj), if_pos rfl]
  rw [e1, zT_swap (fun t j => if j = σ t then f j else 0)]
  refine zT_congr (fun j h1 h2 => ?_)
  obtain ⟨t, a, b, c⟩ := z_onto h0 hi ⟨h1, h2⟩
  rw [zT_one (i := t) a b (fun s hs1 hs2 hne => if_neg (fun q => hne (hi s t hs1 hs2 a b (by rw [← q, c])))), if_pos c.symm]
/-! Bluestein -/
def zP (x : Int) : Int := x * (x - 1) / 2
theorem zP_2 (x : Int) : 2 * zP x = x * (x - 1) := by
  unfold zP
  have h : x * (x - 1) % 2 = 0 := by
    rcases Int.emod_two_eq x with q | q
    · rw [Int.mul_emod, q, Int.zero_mul, Int.zero_emod]
    · rw [Int.mul_emod, show (x - 1) % 2 = 0 by omega, Int.mul_zero, Int.zero_emod]
  omega
theorem zP_jk (j k : Int) : zP (j + k) = zP j + zP k + j * k := by
  have h1 := zP_2 j
  have h2 := zP_2 k
  have h3 := zP_2 (j + k)
  have h4 : (j + k) * (j + k - 1) = j * (j - 1) + k * (k - 1) + 2 * (j * k) := by grind
  omega
theorem zP_rng {x M : Int} (h : 0 ≤ x ∧ x ≤ M) : 0 ≤ zP x ∧ zP x ≤ M * M := by
  have h1 := zP_2 x
  rcases Int.lt_or_le 0 x with q | q
  · have h2 := z_mulb (a := x) (b := x - 1) (A := M) (B := M) (by omega) (by omega) (by omega) (by omega)
    omega
  · have : x = 0 := by omega
    subst this
    have h2 := z_mulb (a := M) (b := M) (A := M) (B := M) (by omega) (by omega) (by omega) (by omega)
    omega
theorem ch_one {p n : Int} {pw : Int → Int} (hC : zCH p n pw) : ∀ x, pw (x % n) % p = pw (x % n) := fun x => Int.emod_eq_of_lt (hC.2.2.2.2.1 x).1 (hC.2.2.2.2.1 x).2
theorem ch_mul {p n : Int} {pw : Int → Int} (hC : zCH p n pw) (x y : Int) : pw (x % n) * pw (y % n) % p = pw ((x + y) % n) % p := by
  rw [ch_one hC, hC.2.2.2.2.2.2 x y]
theorem blue {p n : Int} {pw : Int → Int} (hC : zCH p n pw) {turn : Int} {g ln cp : Int → Int} {k : Int} (hk : 0 ≤ k ∧ k < n) (hl : ∀ j, 0 ≤ j → j < n → ln j = g j * pw (-turn * zP j % n) % p) (hc : ∀ x, 0 ≤ x → x < 2 * n - 1 → cp x = pw (turn * zP x % n)) :
    (zT (fun j => ln j * cp (j + k)) n % p) * pw (-turn * zP k % n) % p = dft p n pw n turn g k := by
  unfold dft
  rw [z_mm (Int.emod_emod _ _) rfl, ← zT_mulr]
  refine zT_mod (fun j h1 h2 => ?_)
  rw [hl j h1 h2, hc (j + k) (by omega) (by omega), Int.mul_assoc, z_mm (Int.emod_emod _ _) (ch_mul hC _ _), Int.mul_assoc]
  refine z_mm rfl ?_
  rw [ch_mul hC]
  congr 3
  rw [zP_jk]
  grind
/-! Rader -/
def zOp (r m : Int) : Int := if m = 0 then 0 else r - m
def zGN (n gn : Int) : Prop := 3 ≤ n ∧ n ≤ 64 ∧ 1 ≤ gn ∧ gn ≤ 64 ∧ (∀ m, 1 ≤ pwm gn m n ∧ pwm gn m n ≤ n - 1) ∧ pwm gn (n - 1) n = 1 ∧ ∀ a b, 0 ≤ a → a < n - 1 → 0 ≤ b → b < n - 1 → pwm gn a n = pwm gn b n → a = b
theorem pwm_add {b n : Int} {x y : Int} (hx : 0 ≤ x) (hy : 0 ≤ y) : pwm b x n * pwm b y n % n = pwm b (x + y) n := by
  unfold pwm
  rw [← Int.mul_emod, Int.toNat_add hx hy, Int.pow_add]
theorem pwm_1 {b n : Int} (hn : 2 ≤ n) : pwm b 0 n = 1 := by
  unfold pwm
  rw [show (0 : Int).toNat = 0 from rfl, Int.pow_zero, Int.emod_eq_of_lt (by decide) (by omega)]
theorem pwm_mod {b e n : Int} : pwm b e n % n = pwm b e n := Int.emod_emod _ _
theorem rad_op {n gn j q : Int} (hG : zGN n gn) (hj : 0 ≤ j ∧ j < n - 1) (hq : 0 ≤ q ∧ q < n - 1) : pwm gn (zOp (n - 1) (if j ≤ q then q - j else q - j + (n - 1))) n = pwm gn j n * pwm gn (zOp (n - 1) q) n % n := by
  obtain ⟨h3, h64, -, -, hr, h1, -⟩ := hG
  have ho : 0 ≤ zOp (n - 1) q := by unfold zOp; split <;> omega
  rw [pwm_add hj.1 ho]
  have key : ∀ x : Int, 0 ≤ x → pwm gn (x + (n - 1)) n = pwm gn x n := fun x hx => by
    rw [← pwm_add hx (by omega), h1, Int.mul_one, pwm_mod]
  by_cases e1 : j + zOp (n - 1) q = zOp (n - 1) (if j ≤ q then q - j else q - j + (n - 1))
  · rw [e1]
  · have e2 : j + zOp (n - 1) q = zOp (n - 1) (if j ≤ q then q - j else q - j + (n - 1)) + (n - 1) := by
      unfold zOp at e1 ⊢
      split at e1 <;> split at e1 <;> split at e1 <;> (try omega) <;> (repeat' split) <;> omega
    have e3 : 0 ≤ zOp (n - 1) (if j ≤ q then q - j else q - j + (n - 1)) := by
      unfold zOp
      split <;> split <;> omega
    rw [e2, key _ e3]
theorem zT_split1 (f : Int → Int) {n : Int} (hn : 1 ≤ n) : zT f n = f 0 + zT (fun t => f (1 + t)) (n - 1) := by
  have h := zT_app f (a := 1) (b := n - 1) (by decide) (by omega)
  have h2 := zT_s f (Int.le_refl 0)
  rw [zT_0, Int.zero_add, Int.zero_add] at h2
  rw [show 1 + (n - 1) = n by omega, h2] at h
  exact h
theorem rad_perm {n gn : Int} (hG : zGN n gn) (F : Int → Int) : zT (fun m => F (pwm gn m n)) (n - 1) = zT (fun t => F (1 + t)) (n - 1) := by
  obtain ⟨h3, h64, -, -, hr, h1, hinj⟩ := hG
  rw [← zT_perm (σ := fun m => pwm gn m n - 1) (fun t _ _ => by have := hr t; omega) (fun s t a b c d e => hinj s t a b c d (by omega)) (fun t => F (1 + t))]
  exact zT_congr (fun j _ _ => by congr 1; omega)
theorem rad_0 {p n gn : Int} {pw : Int → Int} (hC : zCH p n pw) (hG : zGN n gn) {g : Int → Int} {turn : Int} : (g 0 + zT (fun m => g (pwm gn m n)) (n - 1)) % p = dft p n pw n turn g 0 := by
  have hpw := hC.2.2.2.2.2.1
  rw [rad_perm hG]
  unfold dft
  rw [zT_split1 _ hC.1]
  simp only [Int.mul_zero, Int.zero_emod, hpw, Int.mul_one]
theorem rad_q {p n gn : Int} {pw : Int → Int} (hC : zCH p n pw) (hG : zGN n gn) {g : Int → Int} {turn q : Int} (hq : 0 ≤ q ∧ q < n - 1) {V : Int} (hV : V = (g 0 + zT (fun j => g (pwm gn j n) * pw (turn * pwm gn (zOp (n - 1) (if j ≤ q then q - j else q - j + (n - 1))) n % n)) (n - 1)) % p) : V = dft p n pw n turn g (pwm gn (zOp (n - 1) q) n) := by
  have hpw := hC.2.2.2.2.2.1
  subst hV
  unfold dft
  rw [zT_split1 _ hC.1]
  refine z_am ?_ ?_
  · simp only [Int.mul_zero, Int.zero_mul, Int.zero_emod, hpw, Int.mul_one]
  · have e := rad_perm hG (fun s => g s * pw (turn * s * pwm gn (zOp (n - 1) q) n % n))
    rw [← e]
    congr 1
    refine zT_congr (fun j h1 h2 => ?_)
    rw [rad_op hG ⟨h1, h2⟩ hq]
    congr 2
    rw [Int.mul_emod, Int.emod_emod, ← Int.mul_emod, Int.mul_assoc]
theorem rad_onto {n gn : Int} (hG : zGN n gn) {k : Int} (hk : 1 ≤ k ∧ k ≤ n - 1) : ∃ q, 0 ≤ q ∧ q < n - 1 ∧ pwm gn (zOp (n - 1) q) n = k := by
  obtain ⟨h3, h64, -, -, hr, h1, hinj⟩ := hG
  obtain ⟨t, a, b, c⟩ := z_onto (σ := fun m => pwm gn m n - 1) (n := n - 1) (fun t _ _ => by have := hr t; omega) (fun s t a b c d e => hinj s t a b c d (by omega)) (y := k - 1) (by omega)
  refine ⟨zOp (n - 1) t, ?_, ?_, ?_⟩
  · unfold zOp; split <;> omega
  · unfold zOp; split <;> omega
  · have e : zOp (n - 1) (zOp (n - 1) t) = t := by
      unfold zOp
      by_cases z : t = 0
      · simp [z]
      · rw [if_neg z, if_neg (by omega)]; omega
    rw [e]
    have c' : pwm gn t n - 1 = k - 1 := c
    omega
end PE
