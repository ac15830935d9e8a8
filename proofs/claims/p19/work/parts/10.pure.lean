section PU
theorem z_tmod (v : Int) {n : Int} (hn : 1 ≤ n) : (Int.tmod v n < 0 → v % n = Int.tmod v n + n) ∧ (0 ≤ Int.tmod v n → v % n = Int.tmod v n) ∧ -n < Int.tmod v n ∧ Int.tmod v n < n := by
  have h1 := Int.lt_tmod_of_pos v (show 0 < n by omega)
  have h2 := Int.tmod_lt_of_pos v (show 0 < n by omega)
  have h3 := Int.tmod_add_mul_tdiv v n
  refine ⟨fun h => ?_, fun h => ?_, h1, h2⟩
  · have h4 : v = (Int.tmod v n + n) + n * (Int.tdiv v n - 1) := by rw [Int.mul_sub]; omega
    have h5 : v % n = ((Int.tmod v n + n) + n * (Int.tdiv v n - 1)) % n := congrArg (fun z => z % n) h4
    rw [h5, Int.add_mul_emod_self_left, Int.emod_eq_of_lt (by omega) (by omega)]
  · have h5 : v % n = (Int.tmod v n + n * Int.tdiv v n) % n := congrArg (fun z => z % n) h3.symm
    rw [h5, Int.add_mul_emod_self_left, Int.emod_eq_of_lt h (by omega)]
theorem z_sq {d : Int} (h0 : 0 ≤ d) (h : d * d ≤ 10000) : d ≤ 100 := by
  refine Decidable.byContradiction fun q => ?_
  have h2 : 101 * 101 ≤ d * d := Int.mul_le_mul (by omega) (by omega) (by omega) (by omega)
  omega
theorem z_mulb {a b A B : Int} (ha : 0 ≤ a) (hb : 0 ≤ b) (h1 : a ≤ A) (h2 : b ≤ B) : 0 ≤ a * b ∧ a * b ≤ A * B := ⟨Int.mul_nonneg ha hb, Int.mul_le_mul h1 h2 hb (by omega)⟩
theorem z_rem {a n : Int} (h : 1 ≤ n) : 0 ≤ a % n ∧ a % n < n := ⟨Int.emod_nonneg _ (by omega), Int.emod_lt_of_pos _ (by omega)⟩
/-- the least divisor above 1, from d on -/
def lfN : Nat → Int → Int → Int
  | 0, _, n => max n 2
  | k + 1, d, n => if d * d ≤ n then (if n % d = 0 then d else lfN k (d + 1) n) else max n 2
def lfac (n : Int) : Int := lfN 200 2 n
/-- powers of a remainder -/
def pwm (b e n : Int) : Int := b ^ e.toNat % n
theorem pwm_step {b e n : Int} {k : Nat} (he : 0 ≤ e) : pwm b (e / 2 ^ k) n = (if e / 2 ^ k % 2 = 1 then (pwm b (e / 2 ^ (k + 1)) n * pwm b (e / 2 ^ (k + 1)) n % n) * b % n else pwm b (e / 2 ^ (k + 1)) n * pwm b (e / 2 ^ (k + 1)) n % n) := by
  have h0 : 0 ≤ e / 2 ^ k := Int.ediv_nonneg he (Int.le_of_lt (Int.pow_pos (by decide)))
  have h1 : e / 2 ^ (k + 1) = e / 2 ^ k / 2 := by rw [Int.pow_succ, Int.ediv_ediv_of_nonneg (Int.le_of_lt (Int.pow_pos (by decide)))]
  rw [h1]
  generalize e / 2 ^ k = x at h0 ⊢
  unfold pwm
  have h2 : (b ^ (x / 2).toNat % n * (b ^ (x / 2).toNat % n)) % n = b ^ (2 * (x / 2).toNat) % n := by
    rw [← Int.mul_emod, Nat.two_mul, Int.pow_add]
  split
  · rename_i hx
    have h3 : x.toNat = 2 * (x / 2).toNat + 1 := by omega
    rw [h2, h3, Int.pow_succ, Int.mul_emod (b ^ _ % n) b n, Int.emod_emod, ← Int.mul_emod]
  · rename_i hx
    have h3 : x.toNat = 2 * (x / 2).toNat := by omega
    rw [h2, h3]
theorem lfN_rng : ∀ (k : Nat) (d n : Int), 2 ≤ d → 1 ≤ n → 2 ≤ lfN k d n ∧ (lfN k d n ≤ n ∨ lfN k d n = 2)
  | 0, d, n, h1, h2 => by
    show 2 ≤ max n 2 ∧ (max n 2 ≤ n ∨ max n 2 = 2)
    omega
  | k + 1, d, n, h1, h2 => by
    unfold lfN
    split
    · rename_i h3
      split
      · have h4 : d * 1 ≤ d * d := Int.mul_le_mul_of_nonneg_left (by omega) (by omega)
        omega
      · exact lfN_rng k (d + 1) n (by omega) h2
    · omega
theorem lfac_rng {n : Int} (h : 1 ≤ n) : 2 ≤ lfac n ∧ (lfac n ≤ n ∨ lfac n = 2) := lfN_rng _ _ _ (by decide) h
theorem lfN_step {d n : Int} {k k' : Nat} (hk : k = k' + 1) : lfN k d n = if d * d ≤ n then (if n % d = 0 then d else lfN k' (d + 1) n) else max n 2 := by subst hk; rfl
/-- the test of a primitive root -/
def iprB (c p : Int) : Nat → Int → Bool
  | 0, _ => true
  | k + 1, r => if 1 < r then (decide (pwm c ((p - 1) / lfac r) p ≠ 1) && iprB c p k (r / lfac r)) else true
theorem iprB_step {c p r : Int} {k k' : Nat} (hk : k = k' + 1) : iprB c p k r = if 1 < r then (decide (pwm c ((p - 1) / lfac r) p ≠ 1) && iprB c p k' (r / lfac r)) else true := by subst hk; rfl
def lprN (p : Int) : Nat → Int → Int
  | 0, _ => 1
  | k + 1, c => if c < p then (if iprB c p 14 (p - 1) = true then c else lprN p k (c + 1)) else 1
def lpr (p : Int) : Int := lprN p 10000 1
theorem lprN_step {p c : Int} {k k' : Nat} (hk : k = k' + 1) : lprN p k c = if c < p then (if iprB c p 14 (p - 1) = true then c else lprN p k' (c + 1)) else 1 := by subst hk; rfl
/-- the power of the least prime factor -/
def lppN (n f : Int) : Nat → Int → Int
  | 0, a => a
  | k + 1, a => if n % (a * f) = 0 then lppN n f k (a * f) else a
def lpp (n : Int) : Int := lppN n (lfac n) 14 1
theorem lppN_step {n f a : Int} {k k' : Nat} (hk : k = k' + 1) : lppN n f k a = if n % (a * f) = 0 then lppN n f k' (a * f) else a := by subst hk; rfl
theorem z_dle {n a : Int} (hn : 1 ≤ n) (h : n % a = 0) : a ≤ n := Int.le_of_dvd (by omega) (Int.dvd_of_emod_eq_zero h)
theorem z_div {a b A : Int} (ha : 0 ≤ a) (hb : 1 ≤ b) (h : a ≤ A) : 0 ≤ a / b ∧ a / b ≤ A := ⟨Int.ediv_nonneg ha (by omega), Int.le_trans (Int.ediv_le_self _ ha) h⟩
theorem pwm_rng {b e n : Int} (h : 1 ≤ n) : 0 ≤ pwm b e n ∧ pwm b e n < n := z_rem h
theorem lppN_rng {n f : Int} (hn : 1 ≤ n) (hf : 2 ≤ f) : ∀ (k : Nat) (a : Int), 1 ≤ a ∧ a ≤ n → 1 ≤ lppN n f k a ∧ lppN n f k a ≤ n
  | 0, a, h => h
  | k + 1, a, h => by
    unfold lppN
    split
    · rename_i h1
      have h2 : 1 * 1 ≤ a * f := Int.mul_le_mul (by omega) (by omega) (by omega) (by omega)
      exact lppN_rng hn hf k (a * f) ⟨by omega, z_dle hn h1⟩
    · exact h
theorem lpp_rng {n : Int} (hn : 1 ≤ n) : 1 ≤ lpp n ∧ lpp n ≤ n := lppN_rng hn (lfac_rng hn).1 14 1 (by omega)
/-- the set of a plan's ways -/
def wset (n : Int) : Int := 19 + (if lpp n < n then 4 else 0) + (if 2 < n ∧ (1 < n ∧ lfac n = n) then 8 else 0)
theorem wset_rng (n : Int) : 0 ≤ wset n ∧ wset n ≤ 31 := by
  unfold wset
  split <;> split <;> omega
end PU
