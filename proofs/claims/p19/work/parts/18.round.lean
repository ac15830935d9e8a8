section RO
theorem orth {p n : Int} {pw : Int → Int} (hC : zCH p n pw) (hpr : zPr p) {d : Int} (hd : pw (d % n) ≠ 1) : zT (fun m => pw (m * d % n)) n % p = 0 := by
  have hn := hC.1
  have hr := hC.2.2.2.2.1 d
  have h1 := zT_split1 (fun m => pw (m * d % n)) (n := n + 1) (by omega)
  have h2 := zT_s (fun m => pw (m * d % n)) (n := n) (by omega)
  rw [show n + 1 - 1 = n by omega, h2, Int.mul_emod_right, Int.zero_mul, Int.zero_emod] at h1
  have h3 : zT (fun m => pw (m * d % n)) n = zT (fun t => pw ((1 + t) * d % n)) n := by omega
  have h4 : pw (d % n) * zT (fun m => pw (m * d % n)) n % p = zT (fun m => pw (m * d % n)) n % p := by
    rw [← zT_mul]
    have h5 : zT (fun j => pw (d % n) * pw (j * d % n)) n % p = zT (fun t => pw ((1 + t) * d % n)) n % p := by
      refine zT_mod (fun j _ _ => ?_)
      rw [ch_mul hC, Int.add_mul, Int.one_mul]
    rw [h5, ← h3]
  refine Classical.byContradiction fun q => hd ?_
  have h6 := zPr_cancel (a := pw (d % n)) (b := 1) hpr q (by rw [Int.mul_comm, h4, Int.mul_one])
  have hp := hpr.1
  rw [ch_one hC, show (1 : Int) % p = 1 from Int.emod_eq_of_lt (by decide) (by omega)] at h6
  exact h6
theorem orth0 {p n : Int} {pw : Int → Int} (hC : zCH p n pw) {d : Int} (hd : d % n = 0) : zT (fun m => pw (m * d % n)) n = n := by
  have e : zT (fun m => pw (m * d % n)) n = zT (fun _ => 1) n := zT_congr (fun j _ _ => by rw [Int.mul_comm, z_k0 _ hd]; exact hC.2.2.2.2.2.1)
  rw [e]
  exact z_ind (P := fun n => zT (fun _ => 1) n = n) rfl (fun k hk ih => by rw [zT_s _ hk, ih]) n (by have := hC.1; omega)
/-- the cyclic convolution -/
def cyc (p n : Int) (a b : Int → Int) (k : Int) : Int := zT (fun j => a j * b ((k - j + n) % n)) n % p
theorem cyc_main {p n iv : Int} {pw : Int → Int} (hC : zCH p n pw) (hpr : zPr p) (hne : ∀ d, d % n ≠ 0 → pw (d % n) ≠ 1) (hiv : n * iv % p = 1) {a b C : Int → Int} {k : Int} (hk : 0 ≤ k ∧ k < n)
    (hc : ∀ m, 0 ≤ m → m < n → C m = dft p n pw n 1 a m * dft p n pw n 1 b m % p) : dft p n pw n (n - 1) C k * iv % p = cyc p n a b k := by
  have hn := hC.1
  have s1 : dft p n pw n (n - 1) C k = zT (fun m => zT (fun i => zT (fun j => a i * b j * pw (m * (i + j - k) % n)) n) n) n % p := by
    unfold dft
    refine zT_mod (fun m m0 m1 => ?_)
    rw [hc m m0 m1]
    have t1 : dft p n pw n 1 a m * dft p n pw n 1 b m % p = zT (fun i => a i * pw (1 * i * m % n)) n * zT (fun j => b j * pw (1 * j * m % n)) n % p := z_mm (Int.emod_emod _ _) (Int.emod_emod _ _)
    rw [z_mm (show dft p n pw n 1 a m * dft p n pw n 1 b m % p % p = zT (fun i => a i * pw (1 * i * m % n)) n * zT (fun j => b j * pw (1 * j * m % n)) n % p by rw [Int.emod_emod, t1]) rfl, Int.mul_assoc, ← zT_mulr]
    refine zT_mod (fun i i0 i1 => ?_)
    have t2 : a i * pw (1 * i * m % n) * (zT (fun j => b j * pw (1 * j * m % n)) n * pw ((n - 1) * m * k % n)) = zT (fun j => a i * pw (1 * i * m % n) * (b j * pw (1 * j * m % n) * pw ((n - 1) * m * k % n))) n := by
      rw [zT_mul, zT_mulr]
    rw [t2]
    refine zT_mod (fun j j0 j1 => ?_)
    have t3 : a i * pw (1 * i * m % n) * (b j * pw (1 * j * m % n) * pw ((n - 1) * m * k % n)) = a i * b j * (pw (1 * i * m % n) * pw (1 * j * m % n) * pw ((n - 1) * m * k % n)) := by grind
    rw [t3]
    refine z_mm rfl ?_
    rw [z_mm (ch_mul hC _ _) rfl, ch_mul hC]
    congr 2
    have t4 : 1 * i * m + 1 * j * m + (n - 1) * m * k = m * (i + j - k) + n * (m * k) := by grind
    rw [t4, Int.add_mul_emod_self_left]
  have s2 : zT (fun m => zT (fun i => zT (fun j => a i * b j * pw (m * (i + j - k) % n)) n) n) n % p = zT (fun i => a i * b ((k - i + n) % n) * n) n % p := by
    rw [zT_swap (fun m i => zT (fun j => a i * b j * pw (m * (i + j - k) % n)) n)]
    refine zT_mod (fun i i0 i1 => ?_)
    rw [zT_swap (fun m j => a i * b j * pw (m * (i + j - k) % n))]
    have r := z_rem (a := k - i + n) hn
    have u1 : zT (fun j => zT (fun m => a i * b j * pw (m * (i + j - k) % n)) n) n % p = zT (fun j => if j = (k - i + n) % n then a i * b j * n else 0) n % p := by
      refine zT_mod (fun j j0 j1 => ?_)
      rw [zT_mul]
      by_cases e : j = (k - i + n) % n
      · rw [if_pos e, orth0 hC (d := i + j - k) ?_]
        have g := Int.emod_add_mul_ediv (k - i + n) n
        rw [show i + j - k = n * (1 - (k - i + n) / n) by rw [Int.mul_sub]; omega, Int.mul_emod_right]
      · rw [if_neg e]
        have hd : (i + j - k) % n ≠ 0 := by
          intro z
          have g2 := Int.emod_add_mul_ediv (i + j - k) n
          rw [z, Int.zero_add] at g2
          have g3 : (k - i + n) % n = j := by
            rw [show k - i + n = j + n * (1 - (i + j - k) / n) by rw [Int.mul_sub]; omega, Int.add_mul_emod_self_left, Int.emod_eq_of_lt j0 j1]
          exact e g3.symm
        rw [z_mm rfl (show zT (fun m => pw (m * (i + j - k) % n)) n % p = 0 % p by rw [orth hC hpr (hne _ hd), Int.zero_emod]), Int.mul_zero]
    rw [u1, zT_one (i := (k - i + n) % n) r.1 r.2 (fun j _ _ hj => if_neg hj), if_pos rfl]
  rw [s1, s2, z_mm (Int.emod_emod _ _) rfl, zT_mulr, Int.mul_assoc]
  unfold cyc
  rw [z_mm rfl (show n * iv % p = 1 % p by rw [hiv, Int.emod_eq_of_lt (by decide) (by have := hpr.1; omega)]), Int.mul_one]
theorem cyc_if {p n : Int} {a b : Int → Int} {k : Int} (hk : 0 ≤ k ∧ k < n) : zT (fun j => a j * b (if j ≤ k then k - j else k - j + n)) n % p = cyc p n a b k := by
  unfold cyc
  congr 1
  refine zT_congr (fun j j0 j1 => ?_)
  split
  · rw [show k - j + n = (k - j) + n * 1 by omega, Int.add_mul_emod_self_left, Int.emod_eq_of_lt (by omega) (by omega)]
  · rw [Int.emod_eq_of_lt (by omega) (by omega)]
/-- the inverse of a plan's length -/
def zInv (p n : Int) : Int := pwm n (p - 2) p
theorem inv_of {p n : Int} (h : zPN p n) : n * zInv p n % p = 1 := by
  have hc := zPN_cut h
  have h3 := h.2.2.1
  have hp := h.1.1
  unfold zInv
  have e := fermat h.1 (a := n) (by omega)
  have e2 := pwm_s (b := n) (e := p - 2) (n := p) (by omega)
  rw [show p - 2 + 1 = p - 1 by omega, e, Int.mul_comm] at e2
  exact e2.symm
/-- the reference's sum -/
def sumR (p n root : Int) (x : Int → Int) (k : Int) : Int := zT (fun j => x j * pwm (pwm root k p) j p) n % p
theorem sumR_fwd {p n : Int} {pw : Int → Int} (h : zPN p n) (hw : zPW p n pw) {x : Int → Int} {k : Int} (hk : 0 ≤ k) : sumR p n (zRoot p n) x k = dft p n pw n 1 x k := by
  unfold sumR dft
  congr 1
  refine zT_congr (fun j j0 _ => ?_)
  rw [pwm_pw hk j0 (by have := h.1.1; omega), pw_mod h hw (by rw [Int.one_mul]; exact Int.mul_nonneg j0 hk), Int.one_mul, Int.mul_comm j k]
theorem sumR_back {p n : Int} {pw : Int → Int} (h : zPN p n) (hw : zPW p n pw) {x : Int → Int} {k : Int} (hk : 0 ≤ k) : sumR p n (pwm (zRoot p n) (p - 2) p) x k = dft p n pw n (n - 1) x k := by
  have hp := h.1.1
  have hn := h.2.2.1
  have hc := zPN_cut h
  unfold sumR dft
  congr 1
  refine zT_congr (fun j j0 _ => ?_)
  have q1 : 0 ≤ k * j := Int.mul_nonneg hk j0
  have q2 : 0 ≤ (n - 1) * j * k := Int.mul_nonneg (Int.mul_nonneg (by omega) j0) hk
  have q3 : 0 ≤ (p - 2) * (k * j) := Int.mul_nonneg (by omega) q1
  rw [pwm_pw hk j0 (by omega), pwm_pw (by omega) q1 (by omega), pw_mod h hw q2, ← root_mod h q3, ← root_mod h q2]
  congr 2
  have e : (p - 2) * (k * j) = (n - 1) * j * k + n * (((p - 1) / n - 1) * (k * j)) := by
    have e1 : n * (((p - 1) / n - 1) * (k * j)) = (n * ((p - 1) / n) - n) * (k * j) := by grind
    rw [e1, hc.1]
    grind
  rw [e, Int.add_mul_emod_self_left]
theorem dft_mod {p n : Int} {pw : Int → Int} {sz tn : Int} {g : Int → Int} {k : Int} : dft p n pw sz tn g k % p = dft p n pw sz tn g k := Int.emod_emod _ _
end RO
