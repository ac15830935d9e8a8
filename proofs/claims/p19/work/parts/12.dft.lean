section DF
theorem z_mm {a a' b b' p : Int} (h1 : a % p = a' % p) (h2 : b % p = b' % p) : a * b % p = a' * b' % p := by rw [Int.mul_emod, h1, h2, ← Int.mul_emod]
theorem z_am {a a' b b' p : Int} (h1 : a % p = a' % p) (h2 : b % p = b' % p) : (a + b) % p = (a' + b') % p := by rw [Int.add_emod, h1, h2, ← Int.add_emod]
theorem z_m0 {x y n : Int} (h : y % n = 0) : (x + y) % n = x % n := by rw [Int.add_emod, h, Int.add_zero, Int.emod_emod]
theorem z_k0 {y n : Int} (k : Int) (h : y % n = 0) : y * k % n = 0 := by rw [Int.mul_emod, h, Int.zero_mul, Int.zero_emod]
/-- the powers of a plan's root, by any exponent -/
def zCH (p n : Int) (pw : Int → Int) : Prop := 1 ≤ n ∧ n ≤ 64 ∧ 2 ≤ p ∧ p ≤ 10000 ∧ (∀ x, 0 ≤ pw (x % n) ∧ pw (x % n) < p) ∧ pw 0 = 1 ∧ ∀ x y, pw ((x + y) % n) = pw (x % n) * pw (y % n) % p
def dft (p n : Int) (pw : Int → Int) (sz turn : Int) (g : Int → Int) (k : Int) : Int := zT (fun j => g j * pw (turn * j * k % n)) sz % p
theorem dft_rng {p n : Int} {pw : Int → Int} {sz turn : Int} {g : Int → Int} {k : Int} (hp : 2 ≤ p) : 0 ≤ dft p n pw sz turn g k ∧ dft p n pw sz turn g k < p := z_rem (by omega)
/-- Stockham's states -/
def stk (p n : Int) (pw : Int → Int) (S Q turn : Int) (x : Int → Int) (t : Int) : Int := zT (fun h => x (t / S + Q * h) * pw (turn * (t % S) * (t / S + Q * h) % n)) S % p
def passF (p n : Int) (pw : Int → Int) (S R P turn : Int) (g : Int → Int) (t : Int) : Int := zT (fun h => g (t % S + S * (t / (S * R) + P * h)) * pw (turn * S * (t / S % R) * (t / (S * R) + P * h) % n)) R % p
theorem z_ix {a A y M : Int} (h1 : 0 ≤ a ∧ a < A) (h2 : 0 ≤ y ∧ y < M) : 0 ≤ a + A * y ∧ a + A * y < A * M := by
  have h3 : 0 ≤ A * y := Int.mul_nonneg (by omega) h2.1
  have h4 : A * (y + 1) ≤ A * M := Int.mul_le_mul_of_nonneg_left (by omega) (by omega)
  rw [Int.mul_add, Int.mul_one] at h4
  omega
theorem z_dm {a A y : Int} (h1 : 0 ≤ a ∧ a < A) : (a + A * y) % A = a ∧ (a + A * y) / A = y := by
  constructor
  · rw [Int.add_mul_emod_self_left, Int.emod_eq_of_lt h1.1 h1.2]
  · rw [Int.add_mul_ediv_left _ _ (by omega), Int.ediv_eq_zero_of_lt h1.1 h1.2, Int.zero_add]
theorem z_split {S R t : Int} (hS : 1 ≤ S) (hR : 1 ≤ R) : t % (S * R) = t % S + S * (t / S % R) ∧ t / S / R = t / (S * R) := by
  have h1 : t / S / R = t / (S * R) := Int.ediv_ediv_of_nonneg (by omega)
  refine ⟨?_, h1⟩
  have e1 := Int.emod_add_mul_ediv t S
  have e2 := Int.emod_add_mul_ediv (t / S) R
  have r1 := z_rem (a := t) hS
  have r2 := z_rem (a := t / S) hR
  have r3 := z_ix (a := t % S) (A := S) (y := t / S % R) (M := R) r1 r2
  rw [h1] at e2
  have e3 : t = (t % S + S * (t / S % R)) + (S * R) * (t / (S * R)) := by
    have e4 : S * (t / S) = S * (t / S % R) + (S * R) * (t / (S * R)) := by
      rw [Int.mul_assoc, ← Int.mul_add, e2]
    omega
  have e5 : t % (S * R) = ((t % S + S * (t / S % R)) + (S * R) * (t / (S * R))) % (S * R) := congrArg (fun z => z % (S * R)) e3
  rw [e5, Int.add_mul_emod_self_left, Int.emod_eq_of_lt r3.1 r3.2]
theorem stk_pass {p n : Int} {pw : Int → Int} (hC : zCH p n pw) {S R P turn : Int} (hS : 1 ≤ S) (hR : 1 ≤ R) (hP : 1 ≤ P) (hN : turn * (S * R * P) % n = 0) {g x : Int → Int} (hg : ∀ t, 0 ≤ t → t < S * (R * P) → g t = stk p n pw S (R * P) turn x t) {t : Int} (h0 : 0 ≤ t) (h1 : t < S * R * P) : passF p n pw S R P turn g t = stk p n pw (S * R) P turn x t := by
  obtain ⟨-, -, -, -, hrg, -, hadd⟩ := hC
  obtain ⟨e1, e2⟩ := z_split (t := t) hS hR
  have r1 := z_rem (a := t) hS
  have r2 := z_rem (a := t / S) hR
  have hSR : 1 * 1 ≤ S * R := Int.mul_le_mul hS hR (by omega) (by omega)
  have r3 : 0 ≤ t / (S * R) := Int.ediv_nonneg h0 (by omega)
  have r4 : t / (S * R) < P := Int.ediv_lt_of_lt_mul (by omega) (by rw [Int.mul_comm]; exact h1)
  unfold passF
  unfold stk
  rw [e1]
  generalize t % S = lw at r1 ⊢
  generalize t / S % R = dg at r2 ⊢
  generalize t / (S * R) = q at r3 r4 ⊢
  rw [Int.mul_comm S R, zT_grid2 _ (by omega) (by omega)]
  refine zT_mod (fun h hh0 hh1 => ?_)
  have r5 := z_ix (a := q) (A := P) (y := h) (M := R) ⟨r3, r4⟩ ⟨hh0, hh1⟩
  rw [Int.mul_comm P R] at r5
  have r6 := z_ix (a := lw) (A := S) (y := q + P * h) (M := R * P) r1 r5
  obtain ⟨d1, d2⟩ := z_dm (y := q + P * h) r1
  rw [hg _ r6.1 r6.2]
  unfold stk
  rw [d1, d2, z_mm (Int.emod_emod _ _) rfl, ← zT_mulr]
  refine zT_mod (fun h2 _ _ => ?_)
  have f1 : q + P * h + R * P * h2 = q + P * (h + R * h2) := by grind
  rw [f1, Int.mul_assoc]
  refine z_mm rfl ?_
  rw [← hadd]
  have f2 : turn * (lw + S * dg) * (q + P * (h + R * h2)) = (turn * lw * (q + P * (h + R * h2)) + turn * S * dg * (q + P * h)) + turn * (S * R * P) * (dg * h2) := by grind
  rw [f2, z_m0 (z_k0 _ hN)]
  exact (Int.emod_eq_of_lt (hrg _).1 (hrg _).2).symm
theorem stk_0 {p n : Int} {pw : Int → Int} (hC : zCH p n pw) {Q turn : Int} {x : Int → Int} {t : Int} (hx : 0 ≤ x t ∧ x t < p) : stk p n pw 1 Q turn x t = x t := by
  obtain ⟨-, -, -, -, -, h1, -⟩ := hC
  unfold stk
  have e := zT_s (fun h => x (t / 1 + Q * h) * pw (turn * (t % 1) * (t / 1 + Q * h) % n)) (Int.le_refl 0)
  rw [zT_0, Int.zero_add, Int.zero_add] at e
  rw [e]
  simp only [Int.ediv_one, Int.emod_one, Int.mul_zero, Int.zero_mul, Int.add_zero, Int.zero_emod, h1, Int.mul_one]
  exact Int.emod_eq_of_lt hx.1 hx.2
theorem stk_end {p n : Int} {pw : Int → Int} {N turn : Int} {x : Int → Int} {t : Int} (h : 0 ≤ t ∧ t < N) : stk p n pw N 1 turn x t = dft p n pw N turn x t := by
  unfold stk dft
  congr 1
  refine zT_congr (fun j _ _ => ?_)
  rw [Int.ediv_eq_zero_of_lt h.1 h.2, Int.emod_eq_of_lt h.1 h.2, Int.zero_add, Int.one_mul]
  congr 3
  rw [Int.mul_assoc, Int.mul_assoc, Int.mul_comm t j]
end DF
