section GT
def gtOk (n : Int) : Bool := decide (lpp n * (n / lpp n) = n) && decide (1 ≤ n / lpp n) && (List.range 65).any (fun i => decide ((n / lpp n) * (i : Int) % lpp n = 1 % lpp n)) && (List.range 65).any (fun i => decide (lpp n * (i : Int) % (n / lpp n) = 1 % (n / lpp n)))
set_option maxRecDepth 100000 in
theorem gt_all : ∀ k : Nat, k < 65 → 2 ≤ k → gtOk (k : Int) = true := by decide +kernel
theorem gt_facts {n : Int} (h1 : 2 ≤ n) (h2 : n ≤ 64) : lpp n * (n / lpp n) = n ∧ 1 ≤ n / lpp n ∧ (∃ i : Int, (n / lpp n) * i % lpp n = 1 % lpp n) ∧ ∃ i : Int, lpp n * i % (n / lpp n) = 1 % (n / lpp n) := by
  have h := gt_all n.toNat (by omega) (by omega)
  rw [Int.toNat_of_nonneg (by omega)] at h
  unfold gtOk at h
  simp only [Bool.and_eq_true, decide_eq_true_eq, List.any_eq_true] at h
  obtain ⟨⟨⟨a, b⟩, ⟨i, -, hi⟩⟩, ⟨j, -, hj⟩⟩ := h
  exact ⟨a, b, ⟨i, hi⟩, ⟨j, hj⟩⟩
theorem gt_half {x w h n wi d a : Int} (hn : h * w = n) (hh : 1 ≤ h) (hw : w * wi % h = 1 % h) (hd : 0 ≤ d ∧ d < h) (hx : x = (w * d + h * a) % n) : x * wi % h = d := by
  have e1 : x % h = w * d % h := by
    rw [hx, Int.emod_emod_of_dvd _ (Int.dvd_of_emod_eq_zero (by rw [← hn, Int.mul_emod_right]) : h ∣ n), Int.add_mul_emod_self_left]
  rw [z_mm e1 rfl, show w * d * wi = d * (w * wi) by grind, z_mm rfl hw, Int.mul_one, Int.emod_eq_of_lt hd.1 hd.2]
theorem gt_inj {n h w wi hi : Int} (hn : h * w = n) (hh : 1 ≤ h) (hw : 1 ≤ w) (h1 : w * wi % h = 1 % h) (h2 : h * hi % w = 1 % w) : ∀ s t : Int, 0 ≤ s → s < n → 0 ≤ t → t < n → (w * (s / w) + h * (s % w)) % n = (w * (t / w) + h * (t % w)) % n → s = t := by
  intro s t a1 a2 b1 b2 e
  have ds : 0 ≤ s / w ∧ s / w < h := ⟨Int.ediv_nonneg a1 (by omega), Int.ediv_lt_of_lt_mul (by omega) (by rw [hn]; exact a2)⟩
  have dt : 0 ≤ t / w ∧ t / w < h := ⟨Int.ediv_nonneg b1 (by omega), Int.ediv_lt_of_lt_mul (by omega) (by rw [hn]; exact b2)⟩
  have rs := z_rem (a := s) hw
  have rt := z_rem (a := t) hw
  have c1 := gt_half hn hh h1 ds rfl (a := s % w)
  have c2 := gt_half hn hh h1 dt rfl (a := t % w)
  rw [e, c2] at c1
  have hn' : w * h = n := by rw [Int.mul_comm]; exact hn
  have f1 := gt_half hn' hw h2 rs (a := s / w) (x := (w * (s / w) + h * (s % w)) % n) (by rw [Int.add_comm])
  have f2 := gt_half hn' hw h2 rt (a := t / w) (x := (w * (t / w) + h * (t % w)) % n) (by rw [Int.add_comm])
  rw [e, f2] at f1
  have g1 := Int.emod_add_mul_ediv s w
  have g2 := Int.emod_add_mul_ediv t w
  rw [← f1, ← c1] at g1
  omega
theorem gt_main {p n : Int} {pw : Int → Int} (hC : zCH p n pw) (h2 : 2 ≤ n) {turn k : Int} {x r1 : Int → Int} {V : Int} (hk : 0 ≤ k ∧ k < n)
    (hr1 : ∀ d, 0 ≤ d → d < lpp n → r1 d = dft p n pw (n / lpp n) (turn * lpp n) (fun a => x (((n / lpp n) * d + lpp n * a) % n)) (k % (n / lpp n)))
    (hV : V = dft p n pw (lpp n) (turn * (n / lpp n)) r1 (k % lpp n)) : V = dft p n pw n turn x k := by
  obtain ⟨hn, hw, ⟨wi, hwi⟩, ⟨hi, hhi⟩⟩ := gt_facts h2 hC.2.1
  have hh := (lpp_rng (n := n) (by omega)).1
  generalize lpp n = h at hn hh hw hwi hhi hr1 hV
  generalize n / h = w at hn hw hwi hhi hr1 hV
  subst hV
  have e1 : dft p n pw n turn x k = zT (fun t => x ((w * (t / w) + h * (t % w)) % n) * pw (turn * ((w * (t / w) + h * (t % w)) % n) * k % n)) n % p := by
    unfold dft
    rw [← zT_perm (σ := fun t => (w * (t / w) + h * (t % w)) % n) (fun t _ _ => z_rem (by omega)) (gt_inj hn hh hw hwi hhi)]
  have hn' : w * h = n := by rw [Int.mul_comm]; exact hn
  rw [e1, show zT (fun t => x ((w * (t / w) + h * (t % w)) % n) * pw (turn * ((w * (t / w) + h * (t % w)) % n) * k % n)) n = zT (fun t => x ((w * (t / w) + h * (t % w)) % n) * pw (turn * ((w * (t / w) + h * (t % w)) % n) * k % n)) (w * h) by rw [hn'], zT_grid _ (by omega) (by omega)]
  unfold dft
  refine zT_mod (fun d d0 d1 => ?_)
  rw [hr1 d d0 d1]
  unfold dft
  rw [z_mm (Int.emod_emod _ _) rfl, ← zT_mulr]
  refine zT_mod (fun a a0 a1 => ?_)
  obtain ⟨q1, q2⟩ := z_dm (y := d) ⟨a0, a1⟩
  simp only [q1, q2]
  rw [Int.mul_assoc]
  refine z_mm rfl ?_
  rw [ch_mul hC]
  congr 2
  have g1 := Int.emod_add_mul_ediv k w
  have g2 := Int.emod_add_mul_ediv k h
  have m1 : turn * ((w * d + h * a) % n) * k % n = turn * (w * d + h * a) * k % n := z_mm (z_mm rfl (Int.emod_emod _ _)) rfl
  rw [m1]
  generalize k % w = ka at g1 ⊢
  generalize k % h = kd at g2 ⊢
  generalize k / w = ya at g1
  generalize k / h = yd at g2
  have m2 : turn * (w * d + h * a) * k = (turn * h * a * ka + turn * w * d * kd) + n * (turn * a * ya + turn * d * yd) := by
    have e3 : turn * (w * d + h * a) * k = turn * h * a * (ka + w * ya) + turn * w * d * (kd + h * yd) := by rw [g1, g2]; grind
    rw [e3, ← hn]
    grind
  rw [m2, Int.add_mul_emod_self_left]
theorem dft_congr {p n : Int} {pw : Int → Int} {sz turn : Int} {g g' : Int → Int} {k : Int} (h : ∀ j, 0 ≤ j → j < sz → g j = g' j) : dft p n pw sz turn g k = dft p n pw sz turn g' k := by
  unfold dft
  rw [zT_congr (fun j h1 h2 => by rw [h j h1 h2])]
theorem passF_at {p n : Int} {pw : Int → Int} {sd rx pt turn lw u v : Int} {g : Int → Int} (h1 : 0 ≤ lw ∧ lw < sd) (h2 : 0 ≤ v ∧ v < rx) : passF p n pw sd rx pt turn g (lw + sd * (rx * u + v)) = zT (fun h => g (lw + sd * (u + pt * h)) * pw (turn * sd * v * (u + pt * h) % n)) rx % p := by
  obtain ⟨a1, a2⟩ := z_dm (y := rx * u + v) h1
  have a3 := (z_split (S := sd) (R := rx) (t := lw + sd * (rx * u + v)) (by omega) (by omega)).2
  have a4 : (rx * u + v) % rx = v ∧ (rx * u + v) / rx = u := by rw [Int.add_comm]; exact z_dm h2
  rw [a2, a4.2] at a3
  unfold passF
  rw [a1, a2, ← a3, a4.1]
theorem lfN_dvd : ∀ (k : Nat) (d n : Int), 2 ≤ n → n % lfN k d n = 0
  | 0, d, n, h => by
    show n % max n 2 = 0
    rw [Int.max_eq_left h, Int.emod_self]
  | k + 1, d, n, h => by
    unfold lfN
    split
    · split
      · assumption
      · exact lfN_dvd k (d + 1) n h
    · rw [Int.max_eq_left h, Int.emod_self]
theorem lfac_dvd {n : Int} (h : 2 ≤ n) : n % lfac n = 0 := lfN_dvd _ _ _ h
theorem lfac_cut {n : Int} (h : 2 ≤ n) : lfac n * (n / lfac n) = n ∧ 1 ≤ n / lfac n ∧ 2 * (n / lfac n) ≤ n := by
  have h1 := lfac_rng (n := n) (by omega)
  have h2 := Int.emod_add_mul_ediv n (lfac n)
  rw [lfac_dvd h, Int.zero_add] at h2
  have h3 : 1 ≤ n / lfac n := by
    rcases Int.lt_or_le (n / lfac n) 1 with q | q
    · have := Int.mul_nonneg (show 0 ≤ lfac n by omega) (show 0 ≤ -(n / lfac n) by omega)
      rw [Int.mul_neg] at this
      omega
    · exact q
  have h4 : 2 * (n / lfac n) ≤ lfac n * (n / lfac n) := Int.mul_le_mul_of_nonneg_right h1.1 (by omega)
  omega
/-- three sizes whose product is at most 64 -/
theorem z_three {a b c : Int} (ha : 1 ≤ a) (hb : 1 ≤ b) (hc : 1 ≤ c) (h : a * b * c ≤ 64) : a ≤ 64 ∧ b ≤ 64 ∧ c ≤ 64 ∧ 1 ≤ a * b * c := by
  have h1 : 1 * 1 ≤ a * b := Int.mul_le_mul ha hb (by omega) (by omega)
  have h2 : a * 1 ≤ a * b := Int.mul_le_mul_of_nonneg_left hb (by omega)
  have h3 : 1 * b ≤ a * b := Int.mul_le_mul_of_nonneg_right ha (by omega)
  have h4 : a * b * 1 ≤ a * b * c := Int.mul_le_mul_of_nonneg_left hc (by omega)
  have h5 : 1 * c ≤ a * b * c := Int.mul_le_mul_of_nonneg_right (by omega) (by omega)
  omega
def gtR (p n : Int) (pw : Int → Int) (turn : Int) (g : Int → Int) (t : Int) : Int := dft p n pw (n / lpp n) (turn * lpp n) (fun a => g ((n / lpp n * (t / (n / lpp n)) + lpp n * a) % n)) (t % (n / lpp n))
def gtC (p n : Int) (pw : Int → Int) (turn : Int) (g : Int → Int) (t : Int) : Int := dft p n pw (lpp n) (turn * (n / lpp n)) (fun d => gtR p n pw turn g (d * (n / lpp n) + t % (n / lpp n))) (t / (n / lpp n))
theorem gtR_rng {p n : Int} {pw : Int → Int} {turn : Int} {g : Int → Int} {t : Int} (hp : 2 ≤ p) : 0 ≤ gtR p n pw turn g t ∧ gtR p n pw turn g t < p := dft_rng hp
theorem gtC_rng {p n : Int} {pw : Int → Int} {turn : Int} {g : Int → Int} {t : Int} (hp : 2 ≤ p) : 0 ≤ gtC p n pw turn g t ∧ gtC p n pw turn g t < p := dft_rng hp
theorem z_dm2 {a w d : Int} (h : 0 ≤ a ∧ a < w) : (d * w + a) % w = a ∧ (d * w + a) / w = d := by rw [Int.add_comm, Int.mul_comm]; exact z_dm h
theorem gt_end {p n : Int} {pw : Int → Int} (hC : zCH p n pw) (h2 : 2 ≤ n) {turn k : Int} {g : Int → Int} (hk : 0 ≤ k ∧ k < n) : gtC p n pw turn g (k % lpp n * (n / lpp n) + k % (n / lpp n)) = dft p n pw n turn g k := by
  obtain ⟨hn, hw, -, -⟩ := gt_facts h2 hC.2.1
  have r1 := z_rem (a := k) hw
  obtain ⟨d1, d2⟩ := z_dm2 (d := k % lpp n) r1
  refine gt_main (r1 := fun d => gtR p n pw turn g (d * (n / lpp n) + k % (n / lpp n))) hC h2 hk (fun d h3 h4 => ?_) ?_
  · obtain ⟨e1, e2⟩ := z_dm2 (d := d) r1
    unfold gtR
    rw [e1, e2]
  · unfold gtC
    rw [d1, d2]
theorem zOp_rng {r m : Int} (h1 : 0 ≤ m) (h2 : m < r) : 0 ≤ zOp r m ∧ zOp r m < r := by unfold zOp; split <;> omega
theorem zOp_inj {r a b : Int} (h1 : 0 ≤ a) (h2 : a < r) (h3 : 0 ≤ b) (h4 : b < r) (h : zOp r a = zOp r b) : a = b := by
  unfold zOp at h
  split at h <;> split at h <;> omega
theorem rad_b {ln cp : Int → Int} {r q j : Int} (h1 : ∀ y, 0 ≤ y → y < r → 0 ≤ ln y ∧ ln y ≤ 10000) (h2 : ∀ y, 0 ≤ y → y < r → 0 ≤ cp y ∧ cp y ≤ 10000) (a1 : 0 ≤ j) (a2 : j < r) (a3 : 0 ≤ q ∧ q < r) : 0 ≤ ln j * cp (if j ≤ q then q - j else q - j + r) ∧ ln j * cp (if j ≤ q then q - j else q - j + r) ≤ 100000000 := by
  have b1 := h1 j a1 a2
  have b2 := h2 (if j ≤ q then q - j else q - j + r) (by split <;> omega) (by split <;> omega)
  exact z_mulb (A := 10000) (B := 10000) b1.1 b2.1 b1.2 b2.2
end GT
