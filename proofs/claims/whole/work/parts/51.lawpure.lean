section LP
theorem zWb_congr {G G' : Int → Int → Int} {c : Int → Int} {lo hi a : Int} (h : G a = G' a) : zWb G c lo hi a = zWb G' c lo hi a := by
  unfold zWb
  rw [h]
theorem kFilter_congr {G G' : Int → Int → Int} {c : Int → Int} (h : ∀ r, 0 ≤ r ∧ r < 4 → G r = G' r) (a b t bl : Int) : kFilter G c a b t bl = kFilter G' c a b t bl := by
  unfold kFilter
  by_cases h1 : 0 ≤ a ∧ a < 4
  · by_cases h2 : 0 ≤ b ∧ b < 4
    · rw [zWb_congr (h a h1), zWb_congr (h b h2)]
    · rw [if_neg (not_not_intro h1), if_neg (not_not_intro h1), if_pos h2, if_pos h2]
  · rw [if_pos h1, if_pos h1]
theorem kMult_congr {G G' : Int → Int → Int} {c : Int → Int} (h : ∀ r, 0 ≤ r ∧ r < 4 → G r = G' r) (a b t : Int) : kMult G c a b t = kMult G' c a b t := by
  unfold kMult
  by_cases h1 : 0 ≤ a ∧ a < 4
  · by_cases h2 : 0 ≤ b ∧ b < 4
    · rw [zWb_congr (h a h1), zWb_congr (h b h2)]
    · rw [if_neg (not_not_intro h1), if_neg (not_not_intro h1), if_pos h2, if_pos h2]
  · rw [if_pos h1, if_pos h1]
theorem kRow_0 {a : Int} (h : kRow a = 0) : 0 ≤ a ∧ a < 4 := by
  unfold kRow at h
  split at h
  · exact absurd h (by decide)
  · rename_i h1; exact Decidable.not_not.mp h1
theorem kPl_0 {np i : Int} (h : kPl np i = 0) : 0 ≤ i ∧ i < np := by
  unfold kPl at h
  split at h
  · exact absurd h (by decide)
  · rename_i h1; exact Decidable.not_not.mp h1
theorem kAppend_0 {c : Int → Int} {a x : Int} (h : kAppend c a x = 0) : (0 ≤ a ∧ a < 4) ∧ (-9999 ≤ x ∧ x ≤ 9999) ∧ c a ≠ 64 := by
  unfold kAppend at h
  split at h
  · exact absurd h (by decide)
  rename_i h1
  split at h
  · exact absurd h (by decide)
  rename_i h2
  split at h
  · exact absurd h (by decide)
  rename_i h3
  exact ⟨Decidable.not_not.mp h1, Decidable.not_not.mp h2, h3⟩
theorem kCopy_0 {a t : Int} (h : kCopy a t = 0) : (0 ≤ a ∧ a < 4) ∧ (0 ≤ t ∧ t < 4) := by
  unfold kCopy at h
  split at h
  · exact absurd h (by decide)
  rename_i h1
  split at h
  · exact absurd h (by decide)
  rename_i h2
  exact ⟨Decidable.not_not.mp h1, Decidable.not_not.mp h2⟩
theorem kAt_0 {c : Int → Int} {a x : Int} (h : kAt c a x = 0) : (0 ≤ a ∧ a < 4) ∧ (0 ≤ x ∧ x < c a) := by
  unfold kAt at h
  split at h
  · exact absurd h (by decide)
  rename_i h1
  split at h
  · exact absurd h (by decide)
  rename_i h2
  exact ⟨Decidable.not_not.mp h1, Decidable.not_not.mp h2⟩
theorem kTr_0 {c : Int → Int} {np : Int} {pn : Int → Int} {i a w : Int} (h : kTr c np pn i a w = 0) : (0 ≤ i ∧ i < np) ∧ (0 ≤ a ∧ a < 4) ∧ c a ≤ pn i := by
  unfold kTr at h
  split at h
  · exact absurd h (by decide)
  rename_i h1
  split at h
  · exact absurd h (by decide)
  rename_i h2
  split at h
  · exact absurd h (by decide)
  split at h
  · exact absurd h (by decide)
  rename_i h4
  exact ⟨Decidable.not_not.mp h1, Decidable.not_not.mp h2, by omega⟩
theorem kSum_0 {c : Int → Int} {np : Int} {pn : Int → Int} {i a x : Int} (h : kSum c np pn i a x = 0) : (0 ≤ i ∧ i < np) ∧ (0 ≤ a ∧ a < 4) := by
  unfold kSum at h
  split at h
  · exact absurd h (by decide)
  rename_i h1
  split at h
  · exact absurd h (by decide)
  rename_i h2
  exact ⟨Decidable.not_not.mp h1, Decidable.not_not.mp h2⟩
theorem kConv_0 {c : Int → Int} {np : Int} {pn : Int → Int} {i a b t : Int} (h : kConv c np pn i a b t = 0) : (0 ≤ i ∧ i < np) ∧ (0 ≤ a ∧ a < 4) ∧ (0 ≤ b ∧ b < 4) ∧ (0 ≤ t ∧ t < 4) := by
  unfold kConv at h
  split at h
  · exact absurd h (by decide)
  rename_i h1
  split at h
  · exact absurd h (by decide)
  rename_i h2
  split at h
  · exact absurd h (by decide)
  rename_i h3
  split at h
  · exact absurd h (by decide)
  rename_i h4
  exact ⟨Decidable.not_not.mp h1, Decidable.not_not.mp h2, Decidable.not_not.mp h3, Decidable.not_not.mp h4⟩
theorem kConvd_0 {c : Int → Int} {np : Int} {pn : Int → Int} {i a b x : Int} (h : kConvd c np pn i a b x = 0) : (0 ≤ i ∧ i < np) ∧ (0 ≤ a ∧ a < 4) ∧ (0 ≤ b ∧ b < 4) := by
  unfold kConvd at h
  split at h
  · exact absurd h (by decide)
  rename_i h1
  split at h
  · exact absurd h (by decide)
  rename_i h2
  split at h
  · exact absurd h (by decide)
  rename_i h3
  exact ⟨Decidable.not_not.mp h1, Decidable.not_not.mp h2, Decidable.not_not.mp h3⟩
theorem kFilter_0 {G : Int → Int → Int} {c : Int → Int} {a b t bl : Int} (h : kFilter G c a b t bl = 0) : (0 ≤ a ∧ a < 4) ∧ (0 ≤ b ∧ b < 4) ∧ (0 ≤ t ∧ t < 4) ∧ zWb G c (-99) 99 a = true ∧ zWb G c (-99) 99 b = true ∧ c a ≠ 0 ∧ c b ≠ 0 ∧ c a + c b ≤ 65 := by
  unfold kFilter at h
  split at h
  · exact absurd h (by decide)
  rename_i h1
  split at h
  · exact absurd h (by decide)
  rename_i h2
  split at h
  · exact absurd h (by decide)
  rename_i h3
  split at h
  · exact absurd h (by decide)
  split at h
  · exact absurd h (by decide)
  rename_i h5
  split at h
  · exact absurd h (by decide)
  rename_i h6
  split at h
  · exact absurd h (by decide)
  rename_i h7
  split at h
  · exact absurd h (by decide)
  rename_i h8
  split at h
  · exact absurd h (by decide)
  rename_i h9
  exact ⟨Decidable.not_not.mp h1, Decidable.not_not.mp h2, Decidable.not_not.mp h3, Decidable.not_not.mp h5, Decidable.not_not.mp h6, h7, h8, by omega⟩
theorem kMult_0 {G : Int → Int → Int} {c : Int → Int} {a b t : Int} (h : kMult G c a b t = 0) : (0 ≤ a ∧ a < 4) ∧ (0 ≤ b ∧ b < 4) ∧ (0 ≤ t ∧ t < 4) ∧ c a ≠ 0 ∧ c b ≠ 0 ∧ c a + c b ≤ 64 := by
  unfold kMult at h
  split at h
  · exact absurd h (by decide)
  rename_i h1
  split at h
  · exact absurd h (by decide)
  rename_i h2
  split at h
  · exact absurd h (by decide)
  rename_i h3
  split at h
  · exact absurd h (by decide)
  split at h
  · exact absurd h (by decide)
  split at h
  · exact absurd h (by decide)
  rename_i h7
  split at h
  · exact absurd h (by decide)
  rename_i h8
  split at h
  · exact absurd h (by decide)
  rename_i h9
  exact ⟨Decidable.not_not.mp h1, Decidable.not_not.mp h2, Decidable.not_not.mp h3, h7, h8, by omega⟩
theorem kPlan_0 {np p n : Int} (h : kPlan np p n = 0) (hnp : 0 ≤ np ∧ np ≤ 8) : zPN p n ∧ np < 8 := by
  unfold kPlan at h
  split at h
  · exact absurd h (by decide)
  rename_i h1
  split at h
  · exact absurd h (by decide)
  rename_i h2
  split at h
  · exact absurd h (by decide)
  rename_i h3
  split at h
  · exact absurd h (by decide)
  rename_i h4
  split at h
  · exact absurd h (by decide)
  rename_i h5
  split at h
  · exact absurd h (by decide)
  rename_i h6
  split at h
  · exact absurd h (by decide)
  rename_i h7
  exact ⟨⟨⟨by omega, by omega, (Decidable.not_not.mp h3).2⟩, by omega, by omega, by omega, Decidable.not_not.mp h6⟩, by omega⟩
theorem zGm_rng {xe xl : Int → Int} (hl : ∀ r, 0 ≤ r ∧ r < 4 → 0 ≤ xl r ∧ xl r ≤ 64) (he : ∀ k, 0 ≤ k → k < 256 → -1000000 ≤ xe k ∧ xe k ≤ 1000000) {a : Int} (ha : 0 ≤ a ∧ a < 4) (k : Int) : -1000000 ≤ zGm xe xl a k ∧ zGm xe xl a k ≤ 1000000 := by
  have h := hl a ha
  exact rowAt_rng (fun j h1 h2 => he (64 * a + j) (by omega) (by omega)) (by omega)
/-- what holds of both sides at the head of the loop -/
def zSame (ar : zk → Int → Int) (xe xl : Int → Int) : Prop := ∀ r, 0 ≤ r ∧ r < 4 → zG ar xl r = zGm xe xl r
theorem z_inv {ad : zk → Nat} {ar : zk → Int → Int} {xe xl xp xz xr : Int → Int} {np : Int} {pg : Int → Option Nat} {cl v v' : Int} {mt : Prop} {t n : Int} {val val' : Int → Int} {u : Int × (Nat → Int64) × (Int → Int) × (zk → Int → Int)} {w : Int × (Int → Int) × (Int → Int) × (Int → Int)} (hY : zYI ad ar xl np xp xz pg) (hM : zMI xe xl xp xz xr np) (hag : zSame ar xe xl)
    (hw : zWp cl v mt xl ar t n val u) (hm : zMp cl v' mt xe xl t n val' w) (hv : cl = 0 ∧ mt → (0 ≤ t ∧ t < 4) ∧ (0 ≤ n ∧ n ≤ 64) ∧ ∀ k, 0 ≤ k → k < n → val k = val' k ∧ -1000000 ≤ val' k ∧ val' k ≤ 1000000) : w.2.2.1 = u.2.2.1 ∧ zYI ad u.2.2.2 u.2.2.1 np xp xz pg ∧ zMI w.2.1 u.2.2.1 xp xz xr np ∧ zSame u.2.2.2 w.2.1 u.2.2.1 := by
  obtain ⟨k, o2, c2, ar2⟩ := u
  obtain ⟨b, xe2, xl2, xm2⟩ := w
  obtain ⟨w1, w2, w3, w4, w5, w6⟩ := hw
  obtain ⟨m1, m2, m3⟩ := hm
  obtain ⟨y1, y2, y3, y4⟩ := hY
  obtain ⟨n1, n2, n3, n4⟩ := hM
  dsimp only at w1 w2 w3 w4 w5 w6 m1 m2 m3 ⊢
  by_cases q : cl = 0 ∧ mt
  · obtain ⟨e1, e2⟩ := w3 q
    obtain ⟨f1, f2, f3⟩ := m2 q
    obtain ⟨ht, hn, hval⟩ := hv q
    have hr1 : ∀ r, r ≠ t → ar2 (1, r) = ar (1, r) := fun r hr => w5 r (fun _ => hr)
    have hc : ∀ r, 0 ≤ r ∧ r < 4 → 0 ≤ zU xl t n r ∧ zU xl t n r ≤ 64 := fun r hr => by
      by_cases e : r = t
      · rw [e, zU_s]; exact hn
      · rw [zU_n _ _ e]; exact y2 r hr
    have hxe : ∀ k, 0 ≤ k → k < 256 → -1000000 ≤ xe2 k ∧ xe2 k ≤ 1000000 := fun k h1 h2 => by
      by_cases e : k < 64 * t ∨ 64 * t + n ≤ k
      · rw [f3 k e]; exact n3 k h1 h2
      · have g := f2 (k - 64 * t) (by omega) (by omega)
        rw [show 64 * t + (k - 64 * t) = k by omega] at g
        rw [g]
        exact (hval _ (by omega) (by omega)).2
    have hsm : zSame ar2 xe2 (zU xl t n) := fun r hr => by
      by_cases e : r = t
      · subst e
        show rowAt (ar2 (1, r)) (zU xl r n r) = rowAt (eRow xe2 r) (zU xl r n r)
        rw [zU_s]
        exact rowAt_ext (fun k h1 h2 => by rw [e2 k h1 h2, (hval k h1 h2).1]; exact (f2 k h1 h2).symm)
      · show rowAt (ar2 (1, r)) (zU xl t n r) = rowAt (eRow xe2 r) (zU xl t n r)
        rw [zU_n _ _ e, hr1 r e]
        refine (hag r hr).trans (rowAt_ext (fun k h1 h2 => ?_))
        have g := y2 r hr
        exact (f3 (64 * r + k) (by omega)).symm
    rw [e1, f1]
    refine ⟨rfl, ⟨y1, hc, fun r hr k h1 h2 => ?_, fun i hi => ?_⟩, ⟨n1, hc, hxe, n4⟩, hsm⟩
    · by_cases e : r = t
      · subst e
        rw [zU_s] at h2
        rw [e2 k h1 h2, (hval k h1 h2).1]
        exact (hval k h1 h2).2
      · rw [zU_n _ _ e] at h2
        rw [hr1 r e]
        exact y3 r hr k h1 h2
    · rw [w6 i]
      exact y4 i hi
  · have e1 := w4 q
    obtain ⟨f1, f2⟩ := m3 q
    have hr1 : ∀ r, ar2 (1, r) = ar (1, r) := fun r => w5 r (fun z => absurd z q)
    rw [e1, f1, f2]
    refine ⟨rfl, ⟨y1, y2, fun r hr => ?_, fun i hi => ?_⟩, ⟨n1, n2, n3, n4⟩, fun r hr => ?_⟩
    · rw [hr1 r]; exact y3 r hr
    · rw [w6 i]; exact y4 i hi
    · show rowAt (ar2 (1, r)) (xl r) = _
      rw [hr1 r]
      exact hag r hr
section VALS
variable {ar : zk → Int → Int} {xe xl xp xz xr : Int → Int} {np : Int}
theorem v_append {a x : Int} (hM : zMI xe xl xp xz xr np) (hag : zSame ar xe xl) (h : kAppend xl a x = 0) : (0 ≤ a ∧ a < 4) ∧ (0 ≤ xl a + 1 ∧ xl a + 1 ≤ 64) ∧ ∀ k, 0 ≤ k → k < xl a + 1 → zU (zG ar xl a) (xl a) x k = zU (zGm xe xl a) (xl a) x k ∧ -1000000 ≤ zU (zGm xe xl a) (xl a) x k ∧ zU (zGm xe xl a) (xl a) x k ≤ 1000000 := by
  obtain ⟨h1, h2, h3⟩ := kAppend_0 h
  have h4 := hM.2.1 a h1
  refine ⟨h1, by omega, fun k _ _ => ⟨by rw [hag a h1], ?_⟩⟩
  unfold zU
  split
  · omega
  · exact zGm_rng hM.2.1 hM.2.2.1 h1 k
theorem v_clear {a : Int} (h : kRow a = 0) : (0 ≤ a ∧ a < 4) ∧ (0 ≤ (0 : Int) ∧ (0 : Int) ≤ 64) ∧ ∀ k : Int, 0 ≤ k → k < 0 → (fun _ : Int => (0 : Int)) k = (fun _ : Int => (0 : Int)) k ∧ -1000000 ≤ (fun _ : Int => (0 : Int)) k ∧ (fun _ : Int => (0 : Int)) k ≤ 1000000 :=
  ⟨kRow_0 h, by decide, fun k h1 h2 => absurd h2 (by omega)⟩
theorem v_copy {a t : Int} (hM : zMI xe xl xp xz xr np) (hag : zSame ar xe xl) (h : kCopy a t = 0) : (0 ≤ t ∧ t < 4) ∧ (0 ≤ xl a ∧ xl a ≤ 64) ∧ ∀ k, 0 ≤ k → k < xl a → zG ar xl a k = zGm xe xl a k ∧ -1000000 ≤ zGm xe xl a k ∧ zGm xe xl a k ≤ 1000000 := by
  obtain ⟨h1, h2⟩ := kCopy_0 h
  exact ⟨h2, hM.2.1 a h1, fun k _ _ => ⟨by rw [hag a h1], zGm_rng hM.2.1 hM.2.2.1 h1 k⟩⟩
theorem v_fw {i a w : Int} (hM : zMI xe xl xp xz xr np) (hag : zSame ar xe xl) (h : kTr xl np xz i a w = 0) : (0 ≤ a ∧ a < 4) ∧ (0 ≤ xz i ∧ xz i ≤ 64) ∧ ∀ k, 0 ≤ k → k < xz i → vFw (xp i) (xz i) (fun j => zG ar xl a j % xp i) k = vFw (xp i) (xz i) (fun j => zGm xe xl a j % xp i) k ∧ -1000000 ≤ vFw (xp i) (xz i) (fun j => zGm xe xl a j % xp i) k ∧ vFw (xp i) (xz i) (fun j => zGm xe xl a j % xp i) k ≤ 1000000 := by
  obtain ⟨h1, h2, h3⟩ := kTr_0 h
  obtain ⟨⟨⟨p1, p2, p3⟩, p4, p5, p6, p7⟩, -⟩ := hM.2.2.2 i h1
  refine ⟨h2, by omega, fun k _ _ => ⟨by rw [hag a h2], ?_⟩⟩
  have := vFw_rng (p := xp i) (n := xz i) (X := fun j => zGm xe xl a j % xp i) (k := k) (by omega)
  omega
theorem v_bk {i a w : Int} (hM : zMI xe xl xp xz xr np) (hag : zSame ar xe xl) (h : kTr xl np xz i a w = 0) : (0 ≤ a ∧ a < 4) ∧ (0 ≤ xz i ∧ xz i ≤ 64) ∧ ∀ k, 0 ≤ k → k < xz i → vBk (xp i) (xz i) (fun j => zG ar xl a j % xp i) k = vBk (xp i) (xz i) (fun j => zGm xe xl a j % xp i) k ∧ -1000000 ≤ vBk (xp i) (xz i) (fun j => zGm xe xl a j % xp i) k ∧ vBk (xp i) (xz i) (fun j => zGm xe xl a j % xp i) k ≤ 1000000 := by
  obtain ⟨h1, h2, h3⟩ := kTr_0 h
  obtain ⟨⟨⟨p1, p2, p3⟩, p4, p5, p6, p7⟩, -⟩ := hM.2.2.2 i h1
  refine ⟨h2, by omega, fun k _ _ => ⟨by rw [hag a h2], ?_⟩⟩
  have := vBk_rng (p := xp i) (n := xz i) (X := fun j => zGm xe xl a j % xp i) (k := k) (by omega)
  omega
theorem v_conv {i a b t : Int} (hM : zMI xe xl xp xz xr np) (hag : zSame ar xe xl) (h : kConv xl np xz i a b t = 0) : (0 ≤ t ∧ t < 4) ∧ (0 ≤ xz i ∧ xz i ≤ 64) ∧ ∀ k, 0 ≤ k → k < xz i → cyc (xp i) (xz i) (fun j => zG ar xl a j % xp i) (fun j => zG ar xl b j % xp i) k = cyc (xp i) (xz i) (fun j => zGm xe xl a j % xp i) (fun j => zGm xe xl b j % xp i) k ∧ -1000000 ≤ cyc (xp i) (xz i) (fun j => zGm xe xl a j % xp i) (fun j => zGm xe xl b j % xp i) k ∧ cyc (xp i) (xz i) (fun j => zGm xe xl a j % xp i) (fun j => zGm xe xl b j % xp i) k ≤ 1000000 := by
  obtain ⟨h1, h2, h3, h4⟩ := kConv_0 h
  obtain ⟨⟨⟨p1, p2, p3⟩, p4, p5, p6, p7⟩, -⟩ := hM.2.2.2 i h1
  refine ⟨h4, by omega, fun k _ _ => ⟨by rw [hag a h2, hag b h3], ?_⟩⟩
  have h9 : 0 ≤ cyc (xp i) (xz i) (fun j => zGm xe xl a j % xp i) (fun j => zGm xe xl b j % xp i) k ∧ cyc (xp i) (xz i) (fun j => zGm xe xl a j % xp i) (fun j => zGm xe xl b j % xp i) k < xp i := z_rem (by omega)
  omega
theorem zLn_eq {a b : Int} (hag : zSame ar xe xl) (h1 : 0 ≤ a ∧ a < 4) (h2 : 0 ≤ b ∧ b < 4) : zLn (zG ar xl) xl a b = zLn (zGm xe xl) xl a b := by
  funext k
  unfold zLn
  rw [hag a h1, hag b h2]
theorem v_filter {a b t bl : Int} (hM : zMI xe xl xp xz xr np) (hag : zSame ar xe xl) (h : kFilter (zGm xe xl) xl a b t bl = 0) : (0 ≤ t ∧ t < 4) ∧ (0 ≤ xl a + xl b - 1 ∧ xl a + xl b - 1 ≤ 64) ∧ ∀ k, 0 ≤ k → k < xl a + xl b - 1 → zLn (zG ar xl) xl a b k = zLn (zGm xe xl) xl a b k ∧ -1000000 ≤ zLn (zGm xe xl) xl a b k ∧ zLn (zGm xe xl) xl a b k ≤ 1000000 := by
  obtain ⟨h1, h2, h3, h4, h5, h6, h7, h8⟩ := kFilter_0 h
  have la := hM.2.1 a h1
  have lb := hM.2.1 b h2
  have wa := (zWb_gm la.1).mp h4
  have wb := (zWb_gm lb.1).mp h5
  refine ⟨h3, by omega, fun k _ _ => ⟨by rw [zLn_eq hag h1 h2], ?_⟩⟩
  have h9 := lin_rng (a := eRow xe a) (b := eRow xe b) (ca := xl a) (cb := xl b) (k := k) (M := 99) (by omega) (by decide) wa wb
  have e : zLn (zGm xe xl) xl a b k = lin (eRow xe a) (xl a) (eRow xe b) (xl b) k := rfl
  rw [e]
  omega
theorem v_mult {a b t : Int} (hM : zMI xe xl xp xz xr np) (hag : zSame ar xe xl) (h : kMult (zGm xe xl) xl a b t = 0) : (0 ≤ t ∧ t < 4) ∧ (0 ≤ ndI (zLn (zGm xe xl) xl a b) (xl a + xl b) ∧ ndI (zLn (zGm xe xl) xl a b) (xl a + xl b) ≤ 64) ∧ ∀ k, 0 ≤ k → k < ndI (zLn (zGm xe xl) xl a b) (xl a + xl b) → dgI (zLn (zG ar xl) xl a b) k = dgI (zLn (zGm xe xl) xl a b) k ∧ -1000000 ≤ dgI (zLn (zGm xe xl) xl a b) k ∧ dgI (zLn (zGm xe xl) xl a b) k ≤ 1000000 := by
  obtain ⟨h1, h2, h3, h4, h5, h6⟩ := kMult_0 h
  have la := hM.2.1 a h1
  have lb := hM.2.1 b h2
  have hn := ndI_rng (L := zLn (zGm xe xl) xl a b) (xl a + xl b) (by omega)
  refine ⟨h3, by omega, fun k _ _ => ⟨by rw [zLn_eq hag h1 h2], ?_⟩⟩
  unfold dgI
  omega
end VALS
end LP
