section PR
theorem lfN_least : ∀ (k : Nat) (d n : Int), 2 ≤ d → 2 ≤ n → n < (d + k) * (d + k) → (∀ e, 2 ≤ e → e < d → n % e ≠ 0) → ∀ e, 2 ≤ e → e < lfN k d n → n % e ≠ 0 := by
  have big : ∀ (d n : Int), 2 ≤ d → n < d * d → (∀ e, 2 ≤ e → e < d → n % e ≠ 0) → ∀ e, 2 ≤ e → e < n → n % e ≠ 0 := by
    intro d n hd hn h e h2 h3 h4
    rcases Int.lt_or_le e d with q | q
    · exact h e h2 q h4
    · have e1 := Int.emod_add_mul_ediv n e
      rw [h4, Int.zero_add] at e1
      have f1 : n / e < d := by
        rcases Int.lt_or_le (n / e) d with z | z
        · exact z
        · have := Int.mul_le_mul q z (by omega) (by omega)
          omega
      have f2 : 2 ≤ n / e := by
        rcases Int.lt_or_le (n / e) 2 with z | z
        · have : e * (n / e) ≤ e * 1 := Int.mul_le_mul_of_nonneg_left (by omega) (by omega)
          omega
        · exact z
      refine h (n / e) f2 f1 ?_
      have e2 : n = (n / e) * e := by rw [Int.mul_comm]; exact e1.symm
      have : n % (n / e) = ((n / e) * e) % (n / e) := congrArg (fun z => z % (n / e)) e2
      rw [this, Int.mul_emod_right]
  intro k
  induction k with
  | zero =>
    intro d n hd hn hf h e h2 h3
    have h3' : e < max n 2 := h3
    rw [Int.max_eq_left hn] at h3'
    exact big d n hd (by simpa using hf) h e h2 h3'
  | succ k ih =>
    intro d n hd hn hf h e h2 h3
    unfold lfN at h3
    split at h3
    · split at h3
      · exact h e h2 h3
      · rename_i hnd
        refine ih (d + 1) n (by omega) hn (by rw [show d + 1 + (k : Int) = d + ((k + 1 : Nat) : Int) by omega]; exact hf) (fun e a b => ?_) e h2 h3
        by_cases z : e = d
        · rw [z]; exact hnd
        · exact h e a (by omega)
    · rename_i hlt
      rw [Int.max_eq_left hn] at h3
      exact big d n hd (by omega) h e h2 h3
theorem lfac_least {n : Int} (h : 2 ≤ n) (h2 : n ≤ 10000) : ∀ e, 2 ≤ e → e < lfac n → n % e ≠ 0 := lfN_least 200 2 n (by decide) h (by omega) (fun e a b => by omega)
/-- a prime: no divisor between 1 and itself -/
def zPr (p : Int) : Prop := 2 ≤ p ∧ ∀ e, 2 ≤ e → e < p → p % e ≠ 0
theorem zPr_of {p : Int} (h : 2 ≤ p) (h2 : p ≤ 10000) (hl : lfac p = p) : zPr p := ⟨h, fun e a b => lfac_least h h2 e a (by rw [hl]; exact b)⟩
theorem zPr_lfac {n : Int} (h : 2 ≤ n) (h2 : n ≤ 10000) : zPr (lfac n) := by
  have h1 := lfac_rng (n := n) (by omega)
  refine ⟨h1.1, fun e a b c => lfac_least h h2 e a b ?_⟩
  have d1 : e ∣ lfac n := Int.dvd_of_emod_eq_zero c
  have d2 : lfac n ∣ n := Int.dvd_of_emod_eq_zero (lfac_dvd h)
  exact Int.emod_eq_zero_of_dvd (Int.dvd_trans d1 d2)
theorem zPr_mul {p a b : Int} (hp : zPr p) (h : a * b % p = 0) : a % p = 0 ∨ b % p = 0 := by
  by_cases ha : a % p = 0
  · exact Or.inl ha
  · right
    have h2 := hp.1
    have hg1 : ((Int.gcd p a : Nat) : Int) ∣ p := Int.gcd_dvd_left ..
    have hg2 : ((Int.gcd p a : Nat) : Int) ∣ a := Int.gcd_dvd_right ..
    have hg : Int.gcd p a = 1 := by
      generalize hG : Int.gcd p a = G at hg1 hg2
      have h0 : G ≠ 0 := fun z => by
        rw [z] at hg1
        have := Int.zero_dvd.mp hg1
        omega
      have hle : (G : Int) ≤ p := Int.le_of_dvd (by omega) hg1
      by_cases e1 : (G : Int) = p
      · rw [e1] at hg2
        exact absurd (Int.emod_eq_zero_of_dvd hg2) ha
      · by_cases e2 : G = 1
        · exact e2
        · exact absurd (Int.emod_eq_zero_of_dvd hg1) (hp.2 G (by omega) (by omega))
    have hd : p ∣ a * b := Int.dvd_of_emod_eq_zero h
    have hd2 : p.natAbs ∣ a.natAbs * b.natAbs := by rw [← Int.natAbs_mul]; exact Int.natAbs_dvd_natAbs.mpr hd
    have hd3 : p.natAbs ∣ b.natAbs := Nat.Coprime.dvd_of_dvd_mul_left (m := a.natAbs) hg hd2
    exact Int.emod_eq_zero_of_dvd (Int.natAbs_dvd_natAbs.mp hd3)
theorem z_sub0 {a b p : Int} : (a - b) % p = 0 ↔ a % p = b % p := ⟨fun h => Int.emod_eq_emod_iff_emod_sub_eq_zero.mpr h, fun h => Int.emod_eq_emod_iff_emod_sub_eq_zero.mp h⟩
theorem zPr_cancel {p a b c : Int} (hp : zPr p) (hc : c % p ≠ 0) (h : c * a % p = c * b % p) : a % p = b % p := by
  have h1 : c * (a - b) % p = 0 := by rw [Int.mul_sub]; exact z_sub0.mpr h
  rcases zPr_mul hp h1 with q | q
  · exact absurd q hc
  · exact z_sub0.mp q
theorem pwm_s {b e n : Int} (he : 0 ≤ e) : pwm b (e + 1) n = pwm b e n * b % n := by
  unfold pwm
  rw [show (e + 1).toNat = e.toNat + 1 by omega, Int.pow_succ, Int.mul_emod (b ^ _ % n), Int.emod_emod, ← Int.mul_emod]
theorem pwm_pw {b i e n : Int} (hi : 0 ≤ i) (he : 0 ≤ e) (hn : 2 ≤ n) : pwm (pwm b i n) e n = pwm b (i * e) n := by
  refine z_ind (P := fun e => pwm (pwm b i n) e n = pwm b (i * e) n) ?_ ?_ e he
  · rw [Int.mul_zero, pwm_1 hn, pwm_1 hn]
  · intro k hk ih
    rw [pwm_s hk, ih, Int.mul_add, Int.mul_one, ← pwm_add (Int.mul_nonneg hi hk) hi]
theorem pwm_one {e n : Int} (he : 0 ≤ e) (hn : 2 ≤ n) : pwm 1 e n = 1 := by
  refine z_ind (P := fun e => pwm 1 e n = 1) (pwm_1 hn) ?_ e he
  intro k hk ih
  rw [pwm_s hk, ih, Int.mul_one, Int.emod_eq_of_lt (by decide) (by omega)]
theorem pwm_per {b k q n : Int} (hk : 0 ≤ k) (hq : 0 ≤ q) (hn : 2 ≤ n) (h : pwm b k n = 1) : pwm b (k * q) n = 1 := by
  rw [← pwm_pw hk hq hn, h, pwm_one hq hn]
theorem ord_dvd {c p N k : Int} (hp : 2 ≤ p) (hN : 0 ≤ N) (h : pwm c N p = 1) (hk : 1 ≤ k) (h1 : pwm c k p = 1) (hl : ∀ j, 1 ≤ j → j < k → pwm c j p ≠ 1) : N % k = 0 := by
  have r := z_rem (a := N) hk
  have e := Int.emod_add_mul_ediv N k
  have hq : 0 ≤ N / k := Int.ediv_nonneg hN (by omega)
  have h2 : pwm c (N % k) p = 1 := by
    have h3 := pwm_add (b := c) (n := p) r.1 (Int.mul_nonneg (show 0 ≤ k by omega) hq)
    rw [pwm_per (by omega) hq hp h1, Int.mul_one, pwm_mod, e, h] at h3
    exact h3
  rcases Int.lt_or_le (N % k) 1 with z | z
  · omega
  · exact absurd h2 (hl _ z r.2)
theorem ipr_tests : ∀ (k : Nat) (c p r f : Int), iprB c p k r = true → 1 ≤ r → r < 2 ^ (k + 1) → r ≤ 10000 → zPr f → r % f = 0 → pwm c ((p - 1) / f) p ≠ 1
  | 0, c, p, r, f, h, h1, h2, h3, hf, hd => by
    have h9 : r = 1 := by
      have : (2 : Int) ^ (0 + 1) = 2 := by decide
      omega
    subst h9
    have := hf.1
    rw [Int.emod_eq_of_lt (by decide) (by omega)] at hd
    omega
  | k + 1, c, p, r, f, h, h1, h2, h3, hf, hd => by
    have hf1 := hf.1
    have hr : 1 < r := by
      rcases Int.lt_or_le 1 r with q | q
      · exact q
      · have : r = 1 := by omega
        subst this
        rw [Int.emod_eq_of_lt (by decide) (by omega)] at hd
        omega
    unfold iprB at h
    rw [if_pos hr, Bool.and_eq_true, decide_eq_true_eq] at h
    by_cases e : f = lfac r
    · rw [e]; exact h.1
    · have hc := lfac_cut (n := r) (by omega)
      have hq := zPr_lfac (n := r) (by omega) h3
      refine ipr_tests k c p (r / lfac r) f h.2 hc.2.1 ?_ (by omega) hf ?_
      · have : (2 : Int) ^ (k + 1 + 1) = 2 ^ (k + 1) * 2 := Int.pow_succ ..
        omega
      · rcases zPr_mul hf (a := lfac r) (b := r / lfac r) (by rw [hc.1]; exact hd) with z | z
        · exfalso
          have hlr := lfac_rng (n := r) (by omega)
          have h8 : f ≤ lfac r := z_dle (by omega) z
          exact hq.2 f hf1 (by omega) z
        · exact z
theorem ord_full {c p : Int} (hp : 3 ≤ p) (hp2 : p ≤ 10000) (h : pwm c (p - 1) p = 1) (ht : iprB c p 14 (p - 1) = true) : ∀ j, 1 ≤ j → j < p - 1 → pwm c j p ≠ 1 := by
  intro j h1 h2 h3
  obtain ⟨k, ⟨a1, a2⟩, a3⟩ := pk_least (fun k : Nat => 1 ≤ k ∧ pwm c (k : Int) p = 1) ⟨j.toNat, by omega, by rw [Int.toNat_of_nonneg (by omega)]; exact h3⟩
  have hkj : (k : Int) ≤ j := by
    rcases Int.lt_or_le j (k : Int) with q | q
    · exact absurd ⟨by omega, by rw [Int.toNat_of_nonneg (by omega)]; exact h3⟩ (a3 j.toNat (by omega))
    · exact q
  have hd := ord_dvd (k := (k : Int)) (by omega) (by omega) h (by omega) a2 (fun i b1 b2 b3 => a3 i.toNat (by omega) ⟨by omega, by rw [Int.toNat_of_nonneg (by omega)]; exact b3⟩)
  have e := Int.emod_add_mul_ediv (p - 1) (k : Int)
  rw [hd, Int.zero_add] at e
  generalize (p - 1) / (k : Int) = m at e
  have hm : 2 ≤ m := by
    rcases Int.lt_or_le m 2 with q | q
    · have : (k : Int) * m ≤ k * 1 := Int.mul_le_mul_of_nonneg_left (by omega) (by omega)
      omega
    · exact q
  have hml : m ≤ 10000 := by
    have : 1 * m ≤ (k : Int) * m := Int.mul_le_mul_of_nonneg_right (by omega) (by omega)
    omega
  have hc := lfac_cut hm
  have hf := zPr_lfac hm hml
  have hlf := lfac_rng (n := m) (by omega)
  have e2 : p - 1 = lfac m * ((k : Int) * (m / lfac m)) := by
    have : lfac m * ((k : Int) * (m / lfac m)) = k * (lfac m * (m / lfac m)) := by grind
    rw [this, hc.1, e]
  refine ipr_tests 14 c p (p - 1) (lfac m) ht (by omega) (by omega) (by omega) hf (by rw [e2, Int.mul_emod_right]) ?_
  rw [e2, Int.mul_ediv_cancel_left _ (by omega)]
  exact pwm_per (by omega) (by omega) (by omega) a2
theorem pwm_n0 {g p a : Int} (hp : 3 ≤ p) (h : pwm g (p - 1) p = 1) (ha : 0 ≤ a) (ha2 : a ≤ p - 1) : 1 ≤ pwm g a p ∧ pwm g a p ≤ p - 1 := by
  have r := pwm_rng (b := g) (e := a) (n := p) (by omega)
  have h1 := pwm_add (b := g) (n := p) ha (show 0 ≤ p - 1 - a by omega)
  rw [show a + (p - 1 - a) = p - 1 by omega, h] at h1
  rcases Int.lt_or_le 0 (pwm g a p) with q | q
  · omega
  · rw [show pwm g a p = 0 by omega, Int.zero_mul, Int.zero_emod] at h1
    omega
theorem pwm_inj {g p : Int} (hp : 3 ≤ p) (hpr : zPr p) (h : pwm g (p - 1) p = 1) (ho : ∀ j, 1 ≤ j → j < p - 1 → pwm g j p ≠ 1) : ∀ a b, 0 ≤ a → a < p - 1 → 0 ≤ b → b < p - 1 → pwm g a p = pwm g b p → a = b := by
  have key : ∀ a b, 0 ≤ a → a < b → b < p - 1 → pwm g a p ≠ pwm g b p := by
    intro a b h1 h2 h3 h4
    have h5 := pwm_add (b := g) (n := p) h1 (show 0 ≤ b - a by omega)
    rw [show a + (b - a) = b by omega, ← h4] at h5
    have n0 := pwm_n0 hp h h1 (by omega)
    have h6 := zPr_cancel (a := pwm g (b - a) p) (b := 1) hpr (c := pwm g a p) (by rw [Int.emod_eq_of_lt (by omega) (by omega)]; omega) (by rw [h5, Int.mul_one, pwm_mod])
    rw [pwm_mod, Int.emod_eq_of_lt (by decide) (by omega)] at h6
    exact ho (b - a) (by omega) (by omega) h6
  intro a b a0 a1 b0 b1 e
  rcases Int.lt_trichotomy a b with q | q | q
  · exact absurd e (key a b a0 q b1)
  · exact q
  · exact absurd e.symm (key b a b0 q a1)
theorem fermat_of {g p : Int} (hp : 3 ≤ p) (hpr : zPr p) (h : pwm g (p - 1) p = 1) (ho : ∀ j, 1 ≤ j → j < p - 1 → pwm g j p ≠ 1) {a : Int} (ha : 1 ≤ a ∧ a ≤ p - 1) : pwm a (p - 1) p = 1 := by
  obtain ⟨t, t0, t1, e⟩ := z_onto (σ := fun t => pwm g t p - 1) (n := p - 1) (fun t a b => by have := pwm_n0 hp h a (by omega); omega) (fun s t a b c d e => pwm_inj hp hpr h ho s t a b c d (by omega)) (y := a - 1) (by omega)
  have e1 : pwm g t p = a := by
    have e2 : pwm g t p - 1 = a - 1 := e
    omega
  rw [← e1, pwm_pw t0 (by omega) (by omega), Int.mul_comm]
  exact pwm_per (by omega) t0 (by omega) h
end PR
