section GT
def gtOk (n : Int) : Bool := decide (lpp n * (n / lpp n) = n) && decide (1 ≤ n / lpp n) && (List.range 65).any (fun i => decide ((n / lpp n) * (i : Int) % lpp n = 1 % lpp n)) && (List.range 65).any (fun i => decide (lpp n * (i : Int) % (n / lpp n) = 1 % (n / lpp n)))
set_option maxRecDepth 100000 in
theorem gt_all : ∀ k : Nat, k < 65 → 2 ≤ k → gtOk (k : Int) = true := by decide +kernel
theorem gt_facts {n : Int} (h1 : 2 ≤ n) (h2 : n ≤ 64) : lpp n * (n / lpp n) = n ∧ 1 ≤ n / lpp n ∧ (∃ i : Int, (n / lpp n) * i % lpp n = 1 % lpp n) ∧ ∃ i : Int, lpp n * i % (n / lpp n) = 1 % (n / lpp n) := by
  have h := gt_all n.toNat (by omega) (by omega)
  rw [Int.toNat_of_nonneg (by omega)] at h
  unfold gtOk at h
  simp only [Bool.and_eq_true, decide_eq_true_eq, List.any_eq_true] at h
  obtain ⟨⟨⟨a, b⟩, ⟨i, -, hi⟩⟩, ⟨j, -, hj⟩⟩ := h
  exact ⟨a, b, ⟨i, hi⟩, ⟨j, hj⟩⟩
theorem gt_half {x w h n wi d a : Int} (hn : h * w = n) (hh : 1 ≤ h) (hw : w * wi % h = 1 % h) (hd : 0 ≤ d ∧ d < h) (hx : x = (w * d + h * a) % n) : x * wi % h = d := by
  have e1 : x % h = w * d % h := by
    rw [hx, Int.emod_emod_of_dvd _ (Int.dvd_of_emod_eq_zero (by rw [← hn, Int.mul_emod_right]) : h ∣ n), Int.add_mul_emod_self_left]
  rw [z_mm e1 rfl, show w * d * wi = d * (w * wi) by grind, z_mm rfl hw, Int.mul_one, Int.emod_eq_of_lt hd.1 hd.2]
theorem gt_inj {n h w wi hi : Int} (hn : h * w = n) (hh : 1 ≤ h) (hw : 1 ≤ w) (h1 : w * wi % h = 1 % h) (h2 : h * hi % w = 1 % w) : ∀ s t : Int, 0 ≤ s → s < n → 0 ≤ t → t < n → (w * (s / w) + h * (s % w)) % n = (w * (t / w) + h * (t % w)) % n → s = t := by
  intro s t a1 a2 b1 b2 e
  have ds : 0 ≤ s / w ∧ s / w < h := ⟨Int.ediv_nonneg a1 (by omega), Int.ediv_lt_of_lt_mul (by omega) (by rw [hn]; exact a2)⟩
  have dt : 0 ≤ t / w ∧ t / w < h := ⟨Int.ediv_nonneg b1 (by omega), Int.ediv_lt_of_lt_mul (by omega) (by rw [hn]; exact b2)⟩
  have rs := z_rem (a := s) hw
  have rt := z_rem (a := t) hw
  have c1 := gt_half hn hh h1 ds rfl (a := s % w)
  have c2 := gt_half hn hh h1 dt rfl (a := t % w)
  rw [e, c2] at c1
  have hn' : w * h = n := by rw [Int.mul_comm]; exact hn
  have f1 := gt_half hn' hw h2 rs (a := s / w) (x := (w * (s / w) + h * (s % w)) % n) (by rw [Int.add_comm])
  have f2 := gt_half hn' hw h2 rt (a := t / w) (x := (w * (t / w) + h * (t % w)) % n) (by rw [Int.add_comm])
  rw [e, f2] at f1
  have g1 := Int.emod_add_mul_ediv s w
  have g2 := Int.emod_add_mul_ediv t w
  rw [← f1, ← c1] at g1
  omega
theorem gt_main {p n : Int} {pw : Int → Int} (hC : zCH p n pw) (h2 : 2 ≤ n) {turn k : Int} {x r1 : Int → Int} {V : Int} (hk : 0 ≤ k ∧ k < n)
    (hr1 : ∀ d, 0 ≤ d → d < lpp n → r1 d = dft p n pw (n / lpp n) (turn * lpp n) (fun a => x (((n / lpp n) * d + lpp n * a) % n)) (k % (n / lpp n)))
    (hV : V = dft p n pw (lpp n) (turn * (n / lpp n)) r1 (k % lpp n)) : V = dft p n pw n turn x k := by
  obtain ⟨hn, hw, ⟨wi, hwi⟩, ⟨hi, hhi⟩⟩ := gt_facts h2 hC.2.1
  have hh := (lpp_rng (n := n) (by omega)).1
  generalize lpp n = h at hn hh hw hwi hhi hr1 hV
  generalize n / h = w at hn hw hwi hhi hr1 hV
  subst hV
  have e1 : dft p n pw n turn x k = zT (fun t => x ((w * (t / w) + h * (t % w)) % n) * pw (turn * ((w * (t / w) + h * (t % w)) % n) * k % n)) n % p := by
    unfold dft
    rw [← zT_perm (σ := fun t => (w * (t / w) + h * (t % w)) % n) (fun t _ _ => z_rem (by omega)) (gt_inj hn hh hw hwi hhi)]
  have hn' : w * h = n := by rw [Int.mul_comm]; exact hn
  rw [e1, show zT (fun t => x ((w * (t / w) + h * (t % w)) % n) * pw (turn * ((w * (t / w) + h * (t % w)) % n) * k % n)) n = zT (fun t => x ((w * (t / w) + h * (t % w)) % n) * pw (turn * ((w * (t / w) + h * (t % w)) % n) * k % n)) (w * h) by rw [hn'], zT_grid _ (by omega) (by omega)]
  unfold dft
  refine zT_mod (fun d d0 d1 => ?_)
  rw [hr1 d d0 d1]
  unfold dft
  rw [z_mm (Int.emod_emod _ _) rfl, ← zT_mulr]
  refine zT_mod (fun a a0 a1 => ?_)
  obtain ⟨q1, q2⟩ := z_dm (y := d) ⟨a0, a1⟩
  simp only [q1, q2]
  rw [Int.mul_assoc]
  refine z_mm rfl ?_
  rw [ch_mul hC]
  congr 2
  have g1 := Int.emod_add_mul_ediv k w
  have g2 := Int.emod_add_mul_ediv k h
  have m1 : turn * ((w * d + h * a) % n) * k % n = turn * (w * d + h * a) * k % n := z_mm (z_mm rfl (Int.emod_emod _ _)) rfl
  rw [m1]
  generalize k % w = ka at g1 ⊢
  generalize k % h = kd at g2 ⊢
  generalize k / w = ya at g1
  generalize k / h = yd at g2
  have m2 : turn * (w * d + h * a) * k = (turn * h * a * ka + turn * w * d * kd) + n * (turn * a * ya + turn * d * yd) := by
    have e3 : turn * (w * d + h * a) * k = turn * h * a * (ka + w * ya) + turn * w * d * (kd + h * yd) := by rw [g1, g2]; grind
    rw [e3, ← hn]
    grind
  rw [m2, Int.add_mul_emod_self_left]
end GT
