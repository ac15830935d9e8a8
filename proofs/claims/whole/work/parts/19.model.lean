section MD
/-- a row of the reference's entries -/
def eRow (x : Int → Int) (r : Int) : Int → Int := fun k => x (64 * r + k)
theorem ipr_iff {b p : Int} (h : zPP p) (hb : 1 ≤ b ∧ b ≤ p - 1) : iprB b p 14 (p - 1) = true ↔ ∀ j, 1 ≤ j → j < p - 1 → pwm b j p ≠ 1 := by
  constructor
  · exact fun ht => ord_full h.1 h.2.1 (fermat h hb) ht
  · intro ho
    have key : ∀ (k : Nat) (r : Int), r ≤ p - 1 → iprB b p k r = true := by
      intro k
      induction k with
      | zero => intro r _; rfl
      | succ k ih =>
        intro r hr
        unfold iprB
        split
        · rename_i h1
          have hl := lfac_rng (n := r) (by omega)
          have hc := lfac_cut (n := r) (by omega)
          have h2 : 1 ≤ (p - 1) / lfac r := by rw [Int.le_ediv_iff_mul_le (by omega)]; omega
          have h3 : (p - 1) / lfac r < p - 1 := by
            have h4 : (p - 1) / lfac r * 2 ≤ (p - 1) / lfac r * lfac r := Int.mul_le_mul_of_nonneg_left hl.1 (by omega)
            have h5 := Int.ediv_mul_le (p - 1) (show lfac r ≠ 0 by omega)
            omega
          rw [decide_eq_true (ho _ h2 h3), Bool.true_and]
          exact ih _ (by omega)
        · rfl
    exact key 14 (p - 1) (Int.le_refl _)
/-- how many primes divide a number, below d -/
def cntN (n : Int) : Nat → Int
  | 0 => 0
  | k + 1 => cntN n k + (if 2 ≤ (k : Int) ∧ n % (k : Int) = 0 ∧ (1 < (k : Int) ∧ lfac (k : Int) = (k : Int)) then 1 else 0)
def cntI (n d : Int) : Int := cntN n d.toNat
theorem cntI_s {n d : Int} (h : 2 ≤ d) : cntI n (d + 1) = cntI n d + (if n % d = 0 ∧ (1 < d ∧ lfac d = d) then 1 else 0) := by
  unfold cntI
  rw [show (d + 1).toNat = d.toNat + 1 by omega]
  show cntN n d.toNat + (if 2 ≤ ((d.toNat : Nat) : Int) ∧ n % ((d.toNat : Nat) : Int) = 0 ∧ (1 < ((d.toNat : Nat) : Int) ∧ lfac ((d.toNat : Nat) : Int) = ((d.toNat : Nat) : Int)) then 1 else 0) = _
  rw [Int.toNat_of_nonneg (by omega)]
  congr 1
  by_cases q : n % d = 0 ∧ (1 < d ∧ lfac d = d)
  · rw [if_pos q, if_pos ⟨h, q⟩]
  · rw [if_neg q, if_neg (fun z => q z.2)]
theorem cntI_2 (n : Int) : cntI n 2 = 0 := by
  unfold cntI
  show cntN n 2 = 0
  unfold cntN cntN cntN
  rw [if_neg (fun q => absurd q.1 (by decide)), if_neg (fun q => absurd q.1 (by decide))]
  rfl
theorem cntI_rng (n d : Int) : 0 ≤ cntI n d ∧ cntI n d ≤ d.toNat := by
  have key : ∀ k : Nat, 0 ≤ cntN n k ∧ cntN n k ≤ k := by
    intro k
    induction k with
    | zero => exact ⟨Int.le_refl _, Int.le_refl _⟩
    | succ k ih =>
      show 0 ≤ cntN n k + _ ∧ cntN n k + _ ≤ ((k + 1 : Nat) : Int)
      split <;> omega
  exact key d.toNat
set_option maxRecDepth 100000 in
theorem cnt_all : ∀ k : Nat, k < 65 → 1 ≤ k → (decide (1 < cntI (k : Int) ((k : Int) + 1)) == decide (lpp (k : Int) < (k : Int))) = true := by decide +kernel
theorem cnt_lpp {n : Int} (h1 : 1 ≤ n) (h2 : n ≤ 64) : 1 < cntI n (n + 1) ↔ lpp n < n := by
  have h := cnt_all n.toNat (by omega) (by omega)
  rw [Int.toNat_of_nonneg (by omega), beq_iff_eq] at h
  exact decide_eq_decide.mp h
/-- the reference's digits: the highest that is not 0 -/
theorem nd_top {L : Int → Int} {k : Int} (hk : 2 ≤ k) (h : dgI L (k - 1) = 0) : ndI L k = ndI L (k - 1) := by
  have e := ndI_s (L := L) (k := k - 1) (by omega)
  rw [show k - 1 + 1 = k by omega, if_neg (fun q => q h)] at e
  exact e
theorem nd_stop {L : Int → Int} {k : Int} (hk : 1 ≤ k) (h : dgI L (k - 1) ≠ 0) : ndI L k = k := by
  have e := ndI_s (L := L) (k := k - 1) (by omega)
  rw [show k - 1 + 1 = k by omega, if_pos h] at e
  exact e
theorem nd_1 {L : Int → Int} : ndI L 1 = 1 := by
  have e := ndI_s (L := L) (k := 0) (Int.le_refl _)
  rw [Int.zero_add] at e
  rw [e]
  split <;> rfl
end MD
