section RT
theorem chk_all {p : Nat} (h1 : 3 ≤ p) (h2 : p < 10003) : chkP p = true := by
  have key : ∀ (j : Nat), (List.range 1000).all (fun i => chkP (i + (1000 * j + 3))) = true → 1000 * j + 3 ≤ p → p < 1000 * j + 1003 → chkP p = true := by
    intro j h a b
    have h3 := List.all_eq_true.mp h (p - (1000 * j + 3)) (List.mem_range.mpr (by omega))
    rw [show p - (1000 * j + 3) + (1000 * j + 3) = p by omega] at h3
    exact h3
  rcases (show p < 1003 ∨ (1003 ≤ p ∧ p < 2003) ∨ (2003 ≤ p ∧ p < 3003) ∨ (3003 ≤ p ∧ p < 4003) ∨ (4003 ≤ p ∧ p < 5003) ∨ (5003 ≤ p ∧ p < 6003) ∨ (6003 ≤ p ∧ p < 7003) ∨ (7003 ≤ p ∧ p < 8003) ∨ (8003 ≤ p ∧ p < 9003) ∨ 9003 ≤ p by omega) with q | q | q | q | q | q | q | q | q | q
  · exact key 0 chk_0 (by omega) (by omega)
  · exact key 1 chk_1 (by omega) (by omega)
  · exact key 2 chk_2 (by omega) (by omega)
  · exact key 3 chk_3 (by omega) (by omega)
  · exact key 4 chk_4 (by omega) (by omega)
  · exact key 5 chk_5 (by omega) (by omega)
  · exact key 6 chk_6 (by omega) (by omega)
  · exact key 7 chk_7 (by omega) (by omega)
  · exact key 8 chk_8 (by omega) (by omega)
  · exact key 9 chk_9 (by omega) (by omega)
theorem root_ex {p : Int} (h1 : 3 ≤ p) (h2 : p ≤ 10000) (hl : lfac p = p) : ∃ g, 1 ≤ g ∧ g < p ∧ g < 40 ∧ pwm g (p - 1) p = 1 ∧ iprB g p 14 (p - 1) = true := by
  have h := chk_all (p := p.toNat) (by omega) (by omega)
  have hp : ((p.toNat : Nat) : Int) = p := Int.toNat_of_nonneg (by omega)
  have hl2 : lfC 200 2 p.toNat = p.toNat := by
    have := lfC_eq 200 2 p.toNat
    rw [hp] at this
    have h5 : lfN 200 ((2 : Nat) : Int) p = p := hl
    rw [h5] at this
    omega
  unfold chkP at h
  rw [if_pos hl2, List.any_eq_true] at h
  obtain ⟨c, hc, h⟩ := h
  simp only [Bool.and_eq_true, decide_eq_true_eq] at h
  obtain ⟨a, b, d, e⟩ := h
  refine ⟨(c : Int), by omega, by omega, by have := List.mem_range.mp hc; omega, ?_, ?_⟩
  · have h6 := pwC c (p.toNat - 1) p.toNat
    rw [d, hp, show ((p.toNat - 1 : Nat) : Int) = p - 1 by omega] at h6
    exact h6
  · have h6 := iprC_eq c p.toNat (by omega) 14 (p.toNat - 1)
    rw [e, hp, show ((p.toNat - 1 : Nat) : Int) = p - 1 by omega] at h6
    exact h6
/-- a prime that a plan may have -/
def zPP (p : Int) : Prop := 3 ≤ p ∧ p ≤ 10000 ∧ lfac p = p
theorem zPP_pr {p : Int} (h : zPP p) : zPr p := zPr_of (by have := h.1; omega) h.2.1 h.2.2
theorem fermat {p : Int} (h : zPP p) {a : Int} (ha : 1 ≤ a ∧ a ≤ p - 1) : pwm a (p - 1) p = 1 := by
  obtain ⟨g, g1, g2, -, g3, g4⟩ := root_ex h.1 h.2.1 h.2.2
  exact fermat_of h.1 (zPP_pr h) g3 (ord_full h.1 h.2.1 g3 g4) ha
theorem lprN_first {p g0 : Int} (hg : iprB g0 p 14 (p - 1) = true) (hg2 : g0 < p) : ∀ (k : Nat) (c : Int), c ≤ g0 → g0 < c + k → c ≤ lprN p k c ∧ lprN p k c ≤ g0 ∧ iprB (lprN p k c) p 14 (p - 1) = true ∧ ∀ x, c ≤ x → x < lprN p k c → iprB x p 14 (p - 1) = false
  | 0, c, h1, h2 => by omega
  | k + 1, c, h1, h2 => by
    unfold lprN
    rw [if_pos (by omega)]
    by_cases e : iprB c p 14 (p - 1) = true
    · rw [if_pos e]
      exact ⟨Int.le_refl _, h1, e, fun x a b => by omega⟩
    · rw [if_neg e]
      have hne : c ≠ g0 := fun z => e (by rw [z]; exact hg)
      obtain ⟨a, b, d, f⟩ := lprN_first hg hg2 k (c + 1) (by omega) (by omega)
      refine ⟨by omega, b, d, fun x q1 q2 => ?_⟩
      by_cases z : x = c
      · rw [z]
        cases hh : iprB c p 14 (p - 1)
        · rfl
        · exact absurd hh e
      · exact f x (by omega) q2
theorem lpr_facts {p : Int} (h : zPP p) : 1 ≤ lpr p ∧ lpr p < p ∧ lpr p < 40 ∧ iprB (lpr p) p 14 (p - 1) = true ∧ ∀ x, 1 ≤ x → x < lpr p → iprB x p 14 (p - 1) = false := by
  obtain ⟨g, g1, g2, g5, g3, g4⟩ := root_ex h.1 h.2.1 h.2.2
  obtain ⟨a, b, c, d⟩ := lprN_first g4 g2 10000 1 g1 (by omega)
  exact ⟨a, by show lprN p 10000 1 < p; omega, by show lprN p 10000 1 < 40; omega, c, d⟩
theorem lpr_ord {p : Int} (h : zPP p) : pwm (lpr p) (p - 1) p = 1 ∧ ∀ j, 1 ≤ j → j < p - 1 → pwm (lpr p) j p ≠ 1 := by
  obtain ⟨a, b, -, c, -⟩ := lpr_facts h
  have h1 := fermat h (a := lpr p) (by omega)
  exact ⟨h1, ord_full h.1 h.2.1 h1 c⟩
theorem pwm_nz {b e p : Int} (hp : zPr p) (hb : b % p ≠ 0) (he : 0 ≤ e) : 1 ≤ pwm b e p ∧ pwm b e p ≤ p - 1 := by
  have hp1 := hp.1
  have key : pwm b e p ≠ 0 := by
    refine z_ind (P := fun e => pwm b e p ≠ 0) ?_ ?_ e he
    · rw [pwm_1 hp1]; decide
    · intro k hk ih z
      rw [pwm_s hk] at z
      rcases zPr_mul hp z with q | q
      · rw [pwm_mod] at q; exact ih q
      · exact hb q
  have := pwm_rng (b := b) (e := e) (n := p) (by omega)
  omega
theorem gn_of {n : Int} (h3 : 3 ≤ n) (h64 : n ≤ 64) (hl : lfac n = n) : zGN n (lpr n) := by
  have h : zPP n := ⟨h3, by omega, hl⟩
  obtain ⟨a, b, c, -, -⟩ := lpr_facts h
  obtain ⟨o1, o2⟩ := lpr_ord h
  refine ⟨h3, h64, a, by omega, fun m => ?_, o1, pwm_inj h3 (zPP_pr h) o1 o2⟩
  rcases Int.lt_or_le m 0 with q | q
  · have e : pwm (lpr n) m n = pwm (lpr n) 0 n := by unfold pwm; rw [show m.toNat = 0 by omega, show (0 : Int).toNat = 0 from rfl]
    rw [e, pwm_1 (by omega)]
    omega
  · exact pwm_nz (zPP_pr h) (by rw [Int.emod_eq_of_lt (by omega) b]; omega) q
/-- the root of a plan -/
def zRoot (p n : Int) : Int := pwm (lpr p) ((p - 1) / n) p
/-- a plan's numbers are right -/
def zPN (p n : Int) : Prop := zPP p ∧ p ≤ 9973 ∧ 1 ≤ n ∧ n ≤ 64 ∧ (p - 1) % n = 0
theorem zPN_cut {p n : Int} (h : zPN p n) : n * ((p - 1) / n) = p - 1 ∧ 1 ≤ (p - 1) / n ∧ n ≤ p - 1 := by
  obtain ⟨⟨h1, -, -⟩, -, h2, h3, h4⟩ := h
  have e := Int.emod_add_mul_ediv (p - 1) n
  rw [h4, Int.zero_add] at e
  have h5 := z_dle (n := p - 1) (by omega) h4
  refine ⟨e, ?_, h5⟩
  rcases Int.lt_or_le ((p - 1) / n) 1 with q | q
  · have : n * ((p - 1) / n) ≤ n * 0 := Int.mul_le_mul_of_nonneg_left (by omega) (by omega)
    omega
  · exact q
theorem root_rng {p n : Int} (h : zPN p n) : 1 ≤ zRoot p n ∧ zRoot p n ≤ p - 1 := by
  obtain ⟨a, b, -⟩ := lpr_facts h.1
  have hc := zPN_cut h
  exact pwm_nz (zPP_pr h.1) (by rw [Int.emod_eq_of_lt (by omega) b]; omega) (by omega)
theorem root_pow {p n : Int} (h : zPN p n) {m : Int} (hm : 0 ≤ m) : pwm (zRoot p n) m p = pwm (lpr p) ((p - 1) / n * m) p := by
  have hc := zPN_cut h
  exact pwm_pw (by omega) hm (by have := h.1.1; omega)
theorem root_n {p n : Int} (h : zPN p n) : pwm (zRoot p n) n p = 1 := by
  have hc := zPN_cut h
  rw [root_pow h (by have := h.2.2.1; omega), Int.mul_comm, hc.1]
  exact (lpr_ord h.1).1
theorem root_ne {p n m : Int} (h : zPN p n) (h1 : 1 ≤ m) (h2 : m < n) : pwm (zRoot p n) m p ≠ 1 := by
  have hc := zPN_cut h
  rw [root_pow h (by omega)]
  have e1 : (p - 1) / n * 1 ≤ (p - 1) / n * m := Int.mul_le_mul_of_nonneg_left h1 (by omega)
  have e2 : (p - 1) / n * (m + 1) ≤ (p - 1) / n * n := Int.mul_le_mul_of_nonneg_left (by omega) (by omega)
  rw [Int.mul_add, Int.mul_one, Int.mul_comm _ n, hc.1] at e2
  exact (lpr_ord h.1).2 _ (by omega) (by omega)
theorem root_mod {p n m : Int} (h : zPN p n) (hm : 0 ≤ m) : pwm (zRoot p n) (m % n) p = pwm (zRoot p n) m p := by
  have h3 := h.2.2.1
  have hp := h.1.1
  have r := z_rem (a := m) h3
  have e := Int.emod_add_mul_ediv m n
  have hq : 0 ≤ m / n := Int.ediv_nonneg hm (by omega)
  have h2 := pwm_add (b := zRoot p n) (n := p) r.1 (Int.mul_nonneg (show 0 ≤ n by omega) hq)
  rw [pwm_per (by omega) hq (by omega) (root_n h), Int.mul_one, pwm_mod, e] at h2
  exact h2
/-- the table of powers that a plan has -/
def zPW (p n : Int) (pw : Int → Int) : Prop := ∀ e, 0 ≤ e → e < n → pw e = pwm (zRoot p n) e p
theorem pw_mod {p n : Int} {pw : Int → Int} (h : zPN p n) (hw : zPW p n pw) {x : Int} (hx : 0 ≤ x) : pw (x % n) = pwm (zRoot p n) x p := by
  have r := z_rem (a := x) h.2.2.1
  rw [hw _ r.1 r.2, root_mod h hx]
theorem ch_of {p n : Int} {pw : Int → Int} (h : zPN p n) (hw : zPW p n pw) : zCH p n pw := by
  have hp := h.1.1
  refine ⟨h.2.2.1, h.2.2.2.1, by omega, h.1.2.1, fun x => ?_, ?_, fun x y => ?_⟩
  · have r := z_rem (a := x) h.2.2.1
    rw [hw _ r.1 r.2]
    exact pwm_rng (by omega)
  · rw [hw 0 (Int.le_refl 0) (by have := h.2.2.1; omega), pwm_1 (by omega)]
  · have r1 := z_rem (a := x) h.2.2.1
    have r2 := z_rem (a := y) h.2.2.1
    have e : (x + y) % n = (x % n + y % n) % n := Int.add_emod ..
    rw [e, pw_mod h hw (by omega), hw _ r1.1 r1.2, hw _ r2.1 r2.2, pwm_add r1.1 r2.1]
theorem ch_ne {p n : Int} {pw : Int → Int} (h : zPN p n) (hw : zPW p n pw) {d : Int} (hd : d % n ≠ 0) : pw (d % n) ≠ 1 := by
  have r := z_rem (a := d) h.2.2.1
  rw [hw _ r.1 r.2]
  exact root_ne h (by omega) r.2
end RT
