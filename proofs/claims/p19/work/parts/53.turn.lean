section Q3
variable (l : Launch) (D : va_G) (cI cW cP : ClassId) (ad : zk → Nat) (np : Int) (pp pn : Int → Int) (pg : Int → Option Nat) (b L : Nat) (xs : Nat → Int32)
set_option maxHeartbeats 4000000 in
set_option maxRecDepth 100000 in
theorem q_isTurned (hE : yE ad np b L) (c : Int → Int) (G : Int → Int → Int) (i : Int) (n : Int) (p : Int) (w : Int) (hi : 0 ≤ i ∧ i < np) (hn_ : pn i = n) (hp_ : pp i = p) (hw4 : 0 ≤ w ∧ w ≤ 4) (hww : wset (pn i) / 2 ^ w.toNat % 2 = 1) (hc1 : c 1 ≤ n) : yC l yL_isTurned wsL_isTurned ({ frames := 7, cells := 0, slots := 0, locals := 183 } : Room) D cI cW cP ad np pp pn pg b L xs c G [.ref (ad (4, 0)), .int (zI i), .int (zI n), .int (zI p), .int (zI w)] (fun v c' G' => 1 = v) := by
  refine yc_start (cc := cL_isTurned) (maxL := 8) (ret := (some .boolean)) (own := RL) hE rfl rfl (by decide) rfl rfl (Nat.le_of_ble_eq_true rfl) [(0, .ref (ad (4, 0))), (1, .int (zI i)), (2, .int (zI n)), (3, .int (zI p)), (4, .int (zI w))] rfl ?_
  intro p_ e_ s m_ below meth cd A H ls hx hb hr hml hts hown hlocks hK hAe hX hbl hbA hY hS hl
  have CF : CallFix p_ m_ cd cL_isTurned 8 s ([.ref (ad (4, 0)), .int (zI i), .int (zI n), .int (zI p), .int (zI w)] : List Value).toArray wsL_isTurned RL := ⟨hx, hb, hml, hown, hts⟩
  have hpn := yS_p hY hi
  rw [hp_, hn_] at hpn
  have hpn1 := hpn.2.2
  have hpn9 := hpn.2.1
  have hpn3 := hpn.1.1
  have hcr := yS_c hY (r := 1) (by omega)
  have hb1 : ∀ k, -1000000 ≤ G 1 k ∧ G 1 k ≤ 1000000 := fun k => yS_g hY (by omega)
  have hz1 : ∀ j, ¬ (0 ≤ j ∧ j < c 1) → G 1 j = 0 := fun j hj => yS_0 hY hj
  refine lv_aload_n hx hb dL_isTurned_0 rfl (lv_at hl 0 rfl) ?_
  refine z_iconst hx hb dL_isTurned_1 ?_
  refine z_iconst hx hb dL_isTurned_2 ?_
  refine yc_call (va_runV (As := [.int (zI 1), .int (zI 3)]) (rest := []) CF (y_copy l D cI cW cP ad np pp pn pg b L xs hE c G 1 3 (by omega) (by omega) (by omega) H.size) (cwV 2 hts gL_isTurned_X5_copy rfl rfl rfl (by decide +kernel) ⟨Nat.le_of_ble_eq_true rfl, Nat.le_of_ble_eq_true rfl⟩) (yc_preV hK hX hbl hbA hS hY) rfl rfl hl.1 rfl (lv_room (Nat.le_of_ble_eq_true rfl)) dL_isTurned_3 ⟨Nat.le_of_ble_eq_true rfl, Nat.le_of_ble_eq_true rfl⟩) hAe hS (fun v_3 c_3 G_3 H locs hp_3 hY hS => ?_)
  obtain ⟨rfl, hn_3, hg_3, ho_3⟩ := hp_3
  replace hg_3 : G_3 3 = G 1 := hg_3
  have hc0_3 : c_3 0 = c 0 := (ho_3 0 (by decide)).1
  have hg0_3 : G_3 0 = G 0 := (ho_3 0 (by decide)).2
  have hc1_3 : c_3 1 = c 1 := (ho_3 1 (by decide)).1
  have hg1_3 : G_3 1 = G 1 := (ho_3 1 (by decide)).2
  have hc2_3 : c_3 2 = c 2 := (ho_3 2 (by decide)).1
  have hg2_3 : G_3 2 = G 2 := (ho_3 2 (by decide)).2
  refine lv_aload_n hx hb dL_isTurned_6 rfl (lv_at hl 0 rfl) ?_
  refine z_iconst hx hb dL_isTurned_7 ?_
  refine yc_call (va_runV (As := [.int (zI 1)]) (rest := [.int (zI (c 1))]) CF (y_length l D cI cW cP ad np pp pn pg b L xs hE c_3 G_3 1 (by omega) H.size) (cwV 1 hts gL_isTurned_X5_length rfl rfl rfl (by decide +kernel) ⟨Nat.le_of_ble_eq_true rfl, Nat.le_of_ble_eq_true rfl⟩) (yc_preV hK hX hbl hbA hS hY) rfl rfl hl.1 rfl (lv_room (Nat.le_of_ble_eq_true rfl)) dL_isTurned_8 ⟨Nat.le_of_ble_eq_true rfl, Nat.le_of_ble_eq_true rfl⟩) hAe hS (fun v_8 c_8 G_8 H locs hp_8 hY hS => ?_)
  obtain ⟨rfl, rfl, rfl⟩ := hp_8
  refine z_eqI (b := (c 1)) (by rw [hc1_3]) ?_
  refine z_icmp_ne (tgt := 18) hx hb dL_isTurned_11 (by decide) (by omega) (fun c_11 => absurd c_11 (by omega)) (fun c_11 => ?_)
  refine z_iconst hx hb dL_isTurned_14 ?_
  refine lv_goto (tgt := 19) hx hb dL_isTurned_15 (by decide) ?_
  refine lv_istore (lv' := [(5, .int (zI 1)), (0, .ref (ad (4, 0))), (1, .int (zI i)), (2, .int (zI n)), (3, .int (zI p)), (4, .int (zI w))]) hx hb dL_isTurned_19 hl (by decide) rfl (fun ls hl => ?_)
  have hl := lv_sub hl [1, 2, 3, 4, 5, 0] rfl
  have hl : lv_has ls 8 [(0, .ref (ad (4, 0))), (1, .int (zI i)), (2, .int (zI n)), (3, .int (zI p)), (4, .int (zI w)), (5, .int (zI 1))] := hl
  refine lv_aload_n hx hb dL_isTurned_21 rfl (lv_at hl 0 rfl) ?_
  refine z_iconst hx hb dL_isTurned_22 ?_
  refine yc_call (va_runV (As := [.int (zI 1)]) (rest := []) CF (y_length l D cI cW cP ad np pp pn pg b L xs hE c_3 G_3 1 (by omega) H.size) (cwV 1 hts gL_isTurned_X5_length rfl rfl rfl (by decide +kernel) ⟨Nat.le_of_ble_eq_true rfl, Nat.le_of_ble_eq_true rfl⟩) (yc_preV hK hX hbl hbA hS hY) rfl rfl hl.1 rfl (lv_room (Nat.le_of_ble_eq_true rfl)) dL_isTurned_23 ⟨Nat.le_of_ble_eq_true rfl, Nat.le_of_ble_eq_true rfl⟩) hAe hS (fun v_23 c_23 G_23 H locs hp_23 hY hS => ?_)
  obtain ⟨rfl, rfl, rfl⟩ := hp_23
  refine z_eqI (b := (c 1)) (by rw [hc1_3]) ?_
  refine lv_istore (lv' := [(6, .int (zI (c 1))), (0, .ref (ad (4, 0))), (1, .int (zI i)), (2, .int (zI n)), (3, .int (zI p)), (4, .int (zI w)), (5, .int (zI 1))]) hx hb dL_isTurned_26 hl (by decide) rfl (fun ls hl => ?_)
  have hl := lv_sub hl [1, 2, 3, 4, 5, 6, 0] rfl
  have hl : lv_has ls 8 [(0, .ref (ad (4, 0))), (1, .int (zI i)), (2, .int (zI n)), (3, .int (zI p)), (4, .int (zI w)), (5, .int (zI 1)), (6, .int (zI (c 1)))] := hl
  refine z_loop (σ := Int × (Int → Int) × (Int → Int → Int)) (fun (k, c_L28, G_L28) => (n - k).toNat) (fun (k, c_L28, G_L28) H locs ls => (c 1 ≤ k ∧ k ≤ n) ∧ (c_L28 1 = c 1) ∧ (G_L28 1 = G 1) ∧ (c_L28 3 = k) ∧ (G_L28 3 = G 1) ∧ (yS D cI cW cP ad np pp pn pg c_L28 G_L28 H) ∧ (va_S A s.heap H locs) ∧ (lv_has ls 8 [(0, .ref (ad (4, 0))), (1, .int (zI i)), (2, .int (zI n)), (3, .int (zI p)), (4, .int (zI w)), (5, .int (zI 1)), (6, .int (zI k))])) ((c 1), c_3, G_3) ⟨(by omega), (by exact hc1_3), (by exact hg1_3), (by exact hn_3), (by exact hg_3), hY, hS, hl⟩ ?_
  intro ⟨k, c_L28, G_L28⟩ H locs ls hI ih_28
  obtain ⟨hk_, hcL28_1, hgL28_1, hcL28_3, hgL28_3, hY, hS, hl⟩ := hI
  refine lv_iload hx hb dL_isTurned_28 (lv_at hl 6 rfl) ?_
  refine lv_iload_n hx hb dL_isTurned_30 rfl (lv_at hl 2 rfl) ?_
  refine z_icmp_ge (tgt := 65) hx hb dL_isTurned_31 (by decide) (by omega) (fun c_31 => ?_) (fun c_31 => ?_)
  · refine lv_iload hx hb dL_isTurned_65 (lv_at hl 5 rfl) ?_
    refine z_if_eq (tgt := 105) hx hb dL_isTurned_67 (by decide) (by omega) (fun c_67 => absurd c_67 (by omega)) (fun c_67 => ?_)
    refine lv_aload_n hx hb dL_isTurned_70 rfl (lv_at hl 0 rfl) ?_
    refine z_iconst hx hb dL_isTurned_71 ?_
    refine z_iconst hx hb dL_isTurned_72 ?_
    refine yc_call (va_runV (As := [.int (zI 3), .int (zI 2)]) (rest := []) CF (y_copy l D cI cW cP ad np pp pn pg b L xs hE c_L28 G_L28 3 2 (by omega) (by omega) (by omega) H.size) (cwV 2 hts gL_isTurned_X5_copy rfl rfl rfl (by decide +kernel) ⟨Nat.le_of_ble_eq_true rfl, Nat.le_of_ble_eq_true rfl⟩) (yc_preV hK hX hbl hbA hS hY) rfl rfl hl.1 rfl (lv_room (Nat.le_of_ble_eq_true rfl)) dL_isTurned_73 ⟨Nat.le_of_ble_eq_true rfl, Nat.le_of_ble_eq_true rfl⟩) hAe hS (fun v_73 c_73 G_73 H locs hp_73 hY hS => ?_)
    obtain ⟨rfl, hn_73, hg_73, ho_73⟩ := hp_73
    replace hn_73 : c_73 2 = k := hn_73.trans (by rw [hcL28_3])
    replace hg_73 : G_73 2 = (G 1) := hg_73.trans (by rw [hgL28_3])
    have hc0_73 : c_73 0 = c_L28 0 := (ho_73 0 (by decide)).1
    have hg0_73 : G_73 0 = G_L28 0 := (ho_73 0 (by decide)).2
    have hc1_73 : c_73 1 = c 1 := (ho_73 1 (by decide)).1.trans hcL28_1
    have hg1_73 : G_73 1 = G 1 := (ho_73 1 (by decide)).2.trans hgL28_1
    have hc3_73 : c_73 3 = k := (ho_73 3 (by decide)).1.trans hcL28_3
    have hg3_73 : G_73 3 = G 1 := (ho_73 3 (by decide)).2.trans hgL28_3
    refine z_eqI (b := k) (by rw [hcL28_3]) ?_
    clear hcL28_1 hgL28_1 hcL28_3 hgL28_3
    refine lv_iload_n hx hb dL_isTurned_76 rfl (lv_at hl 2 rfl) ?_
    refine z_icmp_ne (tgt := 105) hx hb dL_isTurned_77 (by decide) (by omega) (fun c_77 => absurd c_77 (by omega)) (fun c_77 => ?_)
    refine lv_aload_n hx hb dL_isTurned_80 rfl (lv_at hl 0 rfl) ?_
    refine lv_iload_n hx hb dL_isTurned_81 rfl (lv_at hl 1 rfl) ?_
    refine z_iconst hx hb dL_isTurned_82 ?_
    refine lv_iload hx hb dL_isTurned_83 (lv_at hl 4 rfl) ?_
    refine yc_call (va_runV (As := [.int (zI i), .int (zI 3), .int (zI w)]) (rest := []) CF (y_forward l D cI cW cP ad np pp pn pg b L xs hE c_73 G_73 i 3 w (by exact hi) (by omega) (by exact hw4) (by exact hww) (by omega) H.size) (cwV 3 hts gL_isTurned_X5_forward rfl rfl rfl (by decide +kernel) ⟨Nat.le_of_ble_eq_true rfl, Nat.le_of_ble_eq_true rfl⟩) (yc_preV hK hX hbl hbA hS hY) rfl rfl hl.1 rfl (lv_room (Nat.le_of_ble_eq_true rfl)) dL_isTurned_85 ⟨Nat.le_of_ble_eq_true rfl, Nat.le_of_ble_eq_true rfl⟩) hAe hS (fun v_85 c_85 G_85 H locs hp_85 hY hS => ?_)
    obtain ⟨rfl, hn_85, hg_85, ho_85⟩ := hp_85
    replace hg_85 : G_85 3 = zF1 (pp i) (pn i) (G 1) := hg_85.trans (by rw [hg3_73]; rfl)
    have hc2_85 : c_85 2 = k := (ho_85 2 (by decide)).1.trans hn_73
    have hg2_85 : G_85 2 = (G 1) := (ho_85 2 (by decide)).2.trans hg_73
    have hc0_85 : c_85 0 = c_L28 0 := (ho_85 0 (by decide)).1.trans hc0_73
    have hg0_85 : G_85 0 = G_L28 0 := (ho_85 0 (by decide)).2.trans hg0_73
    have hc1_85 : c_85 1 = c 1 := (ho_85 1 (by decide)).1.trans hc1_73
    have hg1_85 : G_85 1 = G 1 := (ho_85 1 (by decide)).2.trans hg1_73
    refine z_eqI (b := dft (pp i) (pn i) (yPw (pp i) (pn i)) (pn i) 1 (fun j => (G 1) j % pp i) 0) (by rw [hg3_73]) ?_
    clear hn_73 hg_73 hc0_73 hg0_73 hc1_73 hg1_73 hc3_73 hg3_73 ho_73
    have hd1 := dft_rng (p := pp i) (n := pn i) (pw := yPw (pp i) (pn i)) (sz := pn i) (turn := 1) (g := fun j => G 1 j % pp i) (k := 0) (by omega)
    refine z_if_lt (tgt := 105) hx hb dL_isTurned_88 (by decide) (by omega) (fun c_88 => absurd c_88 (by omega)) (fun c_88 => ?_)
    refine lv_aload_n hx hb dL_isTurned_91 rfl (lv_at hl 0 rfl) ?_
    refine lv_iload_n hx hb dL_isTurned_92 rfl (lv_at hl 1 rfl) ?_
    refine z_iconst hx hb dL_isTurned_93 ?_
    refine z_iconst hx hb dL_isTurned_94 ?_
    refine yc_call (va_runV (As := [.int (zI i), .int (zI 3), .int (zI 0)]) (rest := []) CF (y_forward l D cI cW cP ad np pp pn pg b L xs hE c_85 G_85 i 3 0 (by exact hi) (by omega) (by omega) (by exact (wset_014 _).1) (by omega) H.size) (cwV 3 hts gL_isTurned_X5_forward rfl rfl rfl (by decide +kernel) ⟨Nat.le_of_ble_eq_true rfl, Nat.le_of_ble_eq_true rfl⟩) (yc_preV hK hX hbl hbA hS hY) rfl rfl hl.1 rfl (lv_room (Nat.le_of_ble_eq_true rfl)) dL_isTurned_95 ⟨Nat.le_of_ble_eq_true rfl, Nat.le_of_ble_eq_true rfl⟩) hAe hS (fun v_95 c_95 G_95 H locs hp_95 hY hS => ?_)
    obtain ⟨rfl, hn_95, hg_95, ho_95⟩ := hp_95
    replace hg_95 : G_95 3 = zF1 (pp i) (pn i) (zF1 (pp i) (pn i) (G 1)) := hg_95.trans (by rw [hg_85]; rfl)
    have hc2_95 : c_95 2 = k := (ho_95 2 (by decide)).1.trans hc2_85
    have hg2_95 : G_95 2 = (G 1) := (ho_95 2 (by decide)).2.trans hg2_85
    have hc0_95 : c_95 0 = c_L28 0 := (ho_95 0 (by decide)).1.trans hc0_85
    have hg0_95 : G_95 0 = G_L28 0 := (ho_95 0 (by decide)).2.trans hg0_85
    have hc1_95 : c_95 1 = c 1 := (ho_95 1 (by decide)).1.trans hc1_85
    have hg1_95 : G_95 1 = G 1 := (ho_95 1 (by decide)).2.trans hg1_85
    refine z_eqI (b := dft (pp i) (pn i) (yPw (pp i) (pn i)) (pn i) 1 (fun j => (zF1 (pp i) (pn i) (G 1)) j % pp i) 0) (by rw [hg_85]) ?_
    clear hn_85 hg_85 hc2_85 hg2_85 hc0_85 hg0_85 hc1_85 hg1_85 ho_85
    have hd2 := dft_rng (p := pp i) (n := pn i) (pw := yPw (pp i) (pn i)) (sz := pn i) (turn := 1) (g := fun j => zF1 (pp i) (pn i) (G 1) j % pp i) (k := 0) (by omega)
    refine z_if_lt (tgt := 105) hx hb dL_isTurned_98 (by decide) (by omega) (fun c_98 => absurd c_98 (by omega)) (fun c_98 => ?_)
    refine z_iconst hx hb dL_isTurned_101 ?_
    refine lv_goto (tgt := 106) hx hb dL_isTurned_102 (by decide) ?_
    refine lv_istore (lv' := [(5, .int (zI 1)), (0, .ref (ad (4, 0))), (1, .int (zI i)), (2, .int (zI n)), (3, .int (zI p)), (4, .int (zI w)), (6, .int (zI k))]) hx hb dL_isTurned_106 hl (by decide) rfl (fun ls hl => ?_)
    have hl := lv_sub hl [1, 2, 3, 4, 5, 0, 6] rfl
    have hl : lv_has ls 8 [(0, .ref (ad (4, 0))), (1, .int (zI i)), (2, .int (zI n)), (3, .int (zI p)), (4, .int (zI w)), (5, .int (zI 1)), (6, .int (zI k))] := hl
    refine z_iconst hx hb dL_isTurned_108 ?_
    refine lv_istore (lv' := [(6, .int (zI 0)), (0, .ref (ad (4, 0))), (1, .int (zI i)), (2, .int (zI n)), (3, .int (zI p)), (4, .int (zI w)), (5, .int (zI 1))]) hx hb dL_isTurned_109 hl (by decide) rfl (fun ls hl => ?_)
    have hl := lv_sub hl [1, 2, 3, 4, 5, 6, 0] rfl
    have hl : lv_has ls 8 [(0, .ref (ad (4, 0))), (1, .int (zI i)), (2, .int (zI n)), (3, .int (zI p)), (4, .int (zI w)), (5, .int (zI 1)), (6, .int (zI 0))] := hl
    refine z_loop (σ := Int) (fun q => (n - q).toNat) (fun q H locs ls => (0 ≤ q ∧ q ≤ n) ∧ (yS D cI cW cP ad np pp pn pg c_95 G_95 H) ∧ (va_S A s.heap H locs) ∧ (lv_has ls 8 [(0, .ref (ad (4, 0))), (1, .int (zI i)), (2, .int (zI n)), (3, .int (zI p)), (4, .int (zI w)), (5, .int (zI 1)), (6, .int (zI q))])) 0 ⟨(by omega), hY, hS, hl⟩ ?_
    intro q H locs ls hI ih_111
    obtain ⟨hq_, hY, hS, hl⟩ := hI
    refine lv_iload hx hb dL_isTurned_111 (lv_at hl 6 rfl) ?_
    refine lv_iload_n hx hb dL_isTurned_113 rfl (lv_at hl 2 rfl) ?_
    refine z_icmp_ge (tgt := 170) hx hb dL_isTurned_114 (by decide) (by omega) (fun c_114 => ?_) (fun c_114 => ?_)
    · refine lv_iload hx hb dL_isTurned_170 (lv_at hl 5 rfl) ?_
      refine z_if_eq (tgt := 212) hx hb dL_isTurned_172 (by decide) (by omega) (fun c_172 => absurd c_172 (by omega)) (fun c_172 => ?_)
      refine lv_aload_n hx hb dL_isTurned_175 rfl (lv_at hl 0 rfl) ?_
      refine lv_iload_n hx hb dL_isTurned_176 rfl (lv_at hl 1 rfl) ?_
      refine z_iconst hx hb dL_isTurned_177 ?_
      refine lv_iload hx hb dL_isTurned_178 (lv_at hl 4 rfl) ?_
      refine yc_call (va_runV (As := [.int (zI i), .int (zI 3), .int (zI w)]) (rest := []) CF (y_backward l D cI cW cP ad np pp pn pg b L xs hE c_95 G_95 i 3 w (by exact hi) (by omega) (by exact hw4) (by exact hww) (by omega) H.size) (cwV 3 hts gL_isTurned_X5_backward rfl rfl rfl (by decide +kernel) ⟨Nat.le_of_ble_eq_true rfl, Nat.le_of_ble_eq_true rfl⟩) (yc_preV hK hX hbl hbA hS hY) rfl rfl hl.1 rfl (lv_room (Nat.le_of_ble_eq_true rfl)) dL_isTurned_180 ⟨Nat.le_of_ble_eq_true rfl, Nat.le_of_ble_eq_true rfl⟩) hAe hS (fun v_180 c_180 G_180 H locs hp_180 hY hS => ?_)
      obtain ⟨rfl, hn_180, hg_180, ho_180⟩ := hp_180
      replace hg_180 : G_180 3 = zB1 (pp i) (pn i) (zF1 (pp i) (pn i) (zF1 (pp i) (pn i) (G 1))) := hg_180.trans (by rw [hg_95]; rfl)
      have hc2_180 : c_180 2 = k := (ho_180 2 (by decide)).1.trans hc2_95
      have hg2_180 : G_180 2 = (G 1) := (ho_180 2 (by decide)).2.trans hg2_95
      have hc0_180 : c_180 0 = c_L28 0 := (ho_180 0 (by decide)).1.trans hc0_95
      have hg0_180 : G_180 0 = G_L28 0 := (ho_180 0 (by decide)).2.trans hg0_95
      have hc1_180 : c_180 1 = c 1 := (ho_180 1 (by decide)).1.trans hc1_95
      have hg1_180 : G_180 1 = G 1 := (ho_180 1 (by decide)).2.trans hg1_95
      refine z_eqI (b := dft (pp i) (pn i) (yPw (pp i) (pn i)) (pn i) (pn i - 1) (fun j => (zF1 (pp i) (pn i) (zF1 (pp i) (pn i) (G 1))) j % pp i) 0 * zInv (pp i) (pn i) % pp i) (by rw [hg_95]) ?_
      clear hn_95 hg_95 hc2_95 hg2_95 hc0_95 hg0_95 hc1_95 hg1_95 ho_95
      have hd3 := z_rem (a := dft (pp i) (pn i) (yPw (pp i) (pn i)) (pn i) (pn i - 1) (fun j => zF1 (pp i) (pn i) (zF1 (pp i) (pn i) (G 1)) j % pp i) 0 * zInv (pp i) (pn i)) (n := pp i) (by omega)
      refine z_if_lt (tgt := 212) hx hb dL_isTurned_183 (by decide) (by omega) (fun c_183 => absurd c_183 (by omega)) (fun c_183 => ?_)
      refine lv_aload_n hx hb dL_isTurned_186 rfl (lv_at hl 0 rfl) ?_
      refine lv_iload_n hx hb dL_isTurned_187 rfl (lv_at hl 1 rfl) ?_
      refine z_iconst hx hb dL_isTurned_188 ?_
      refine z_iconst hx hb dL_isTurned_189 ?_
      refine yc_call (va_runV (As := [.int (zI i), .int (zI 3), .int (zI 4)]) (rest := []) CF (y_backward l D cI cW cP ad np pp pn pg b L xs hE c_180 G_180 i 3 4 (by exact hi) (by omega) (by omega) (by exact (wset_014 _).2.2) (by omega) H.size) (cwV 3 hts gL_isTurned_X5_backward rfl rfl rfl (by decide +kernel) ⟨Nat.le_of_ble_eq_true rfl, Nat.le_of_ble_eq_true rfl⟩) (yc_preV hK hX hbl hbA hS hY) rfl rfl hl.1 rfl (lv_room (Nat.le_of_ble_eq_true rfl)) dL_isTurned_190 ⟨Nat.le_of_ble_eq_true rfl, Nat.le_of_ble_eq_true rfl⟩) hAe hS (fun v_190 c_190 G_190 H locs hp_190 hY hS => ?_)
      obtain ⟨rfl, hn_190, hg_190, ho_190⟩ := hp_190
      replace hg_190 : G_190 3 = zB1 (pp i) (pn i) (zB1 (pp i) (pn i) (zF1 (pp i) (pn i) (zF1 (pp i) (pn i) (G 1)))) := hg_190.trans (by rw [hg_180]; rfl)
      have hc2_190 : c_190 2 = k := (ho_190 2 (by decide)).1.trans hc2_180
      have hg2_190 : G_190 2 = (G 1) := (ho_190 2 (by decide)).2.trans hg2_180
      have hc0_190 : c_190 0 = c_L28 0 := (ho_190 0 (by decide)).1.trans hc0_180
      have hg0_190 : G_190 0 = G_L28 0 := (ho_190 0 (by decide)).2.trans hg0_180
      have hc1_190 : c_190 1 = c 1 := (ho_190 1 (by decide)).1.trans hc1_180
      have hg1_190 : G_190 1 = G 1 := (ho_190 1 (by decide)).2.trans hg1_180
      refine z_eqI (b := dft (pp i) (pn i) (yPw (pp i) (pn i)) (pn i) (pn i - 1) (fun j => (zB1 (pp i) (pn i) (zF1 (pp i) (pn i) (zF1 (pp i) (pn i) (G 1)))) j % pp i) 0 * zInv (pp i) (pn i) % pp i) (by rw [hg_180]) ?_
      clear hn_180 hg_180 hc2_180 hg2_180 hc0_180 hg0_180 hc1_180 hg1_180 ho_180
      refine z_eqI (b := G 1 0 % p) (by rw [hp_, hn_]; exact turn_end hpn (G 1)) ?_
      refine lv_aload_n hx hb dL_isTurned_193 rfl (lv_at hl 0 rfl) ?_
      refine z_iconst hx hb dL_isTurned_194 ?_
      refine z_iconst hx hb dL_isTurned_195 ?_
      refine yc_call (va_runV (As := [.int (zI 2), .int (zI 0)]) (rest := [.int (zI (G 1 0 % p))]) CF (y_at l D cI cW cP ad np pp pn pg b L xs hE c_190 G_190 2 0 (by omega) (by omega) H.size) (cwV 2 hts gL_isTurned_X5_at rfl rfl rfl (by decide +kernel) ⟨Nat.le_of_ble_eq_true rfl, Nat.le_of_ble_eq_true rfl⟩) (yc_preV hK hX hbl hbA hS hY) rfl rfl hl.1 rfl (lv_room (Nat.le_of_ble_eq_true rfl)) dL_isTurned_196 ⟨Nat.le_of_ble_eq_true rfl, Nat.le_of_ble_eq_true rfl⟩) hAe hS (fun v_196 c_196 G_196 H locs hp_196 hY hS => ?_)
      obtain ⟨rfl, rfl, rfl⟩ := hp_196
      refine z_eqI (b := (G 1) 0) (by rw [hg2_190]) ?_
      refine lv_iload_n hx hb dL_isTurned_199 rfl (lv_at hl 3 rfl) ?_
      have hb0 := hb1 0
      have htn := z_tm (x := G 1 0) (m := p) (by omega)
      refine z_iremt hx hb dL_isTurned_200 (by omega) (by omega) ?_
      refine lv_iload_n hx hb dL_isTurned_201 rfl (lv_at hl 3 rfl) ?_
      refine z_iadd hx hb dL_isTurned_202 ?_
      refine lv_iload_n hx hb dL_isTurned_203 rfl (lv_at hl 3 rfl) ?_
      refine z_irem hx hb dL_isTurned_204 (by omega) (by omega) ?_
      have hm_204 := z_rem (a := (Int.tmod ((G 1) 0) p) + p) (n := p) (by omega)
      have hqr := z_rem (a := G 1 0) (n := p) (by omega)
      refine z_icmp_ne (tgt := 212) hx hb dL_isTurned_205 (by decide) (by omega) (fun c_205 => absurd c_205 (by exact fun z => z (z_tmm (by omega)).symm)) (fun c_205 => ?_)
      refine z_iconst hx hb dL_isTurned_208 ?_
      refine lv_goto (tgt := 213) hx hb dL_isTurned_209 (by decide) ?_
      exact y_iret hx hb hr hlocks 1 (rfl) (by exact rfl) hY hAe hS dL_isTurned_213
    · refine lv_iload hx hb dL_isTurned_117 (lv_at hl 5 rfl) ?_
      refine z_if_eq (tgt := 170) hx hb dL_isTurned_119 (by decide) (by omega) (fun c_119 => absurd c_119 (by omega)) (fun c_119 => ?_)
      refine lv_aload_n hx hb dL_isTurned_122 rfl (lv_at hl 0 rfl) ?_
      refine z_iconst hx hb dL_isTurned_123 ?_
      refine lv_iload_n hx hb dL_isTurned_124 rfl (lv_at hl 2 rfl) ?_
      refine lv_iload hx hb dL_isTurned_125 (lv_at hl 6 rfl) ?_
      refine z_isub hx hb dL_isTurned_127 ?_
      refine lv_iload_n hx hb dL_isTurned_128 rfl (lv_at hl 2 rfl) ?_
      refine z_irem hx hb dL_isTurned_129 (by omega) (by omega) ?_
      have hm_129 := z_rem (a := n - q) (n := n) (by omega)
      refine yc_call (va_runV (As := [.int (zI 2), .int (zI ((n - q) % n))]) (rest := []) CF (y_at l D cI cW cP ad np pp pn pg b L xs hE c_95 G_95 2 ((n - q) % n) (by omega) (by omega) H.size) (cwV 2 hts gL_isTurned_X5_at rfl rfl rfl (by decide +kernel) ⟨Nat.le_of_ble_eq_true rfl, Nat.le_of_ble_eq_true rfl⟩) (yc_preV hK hX hbl hbA hS hY) rfl rfl hl.1 rfl (lv_room (Nat.le_of_ble_eq_true rfl)) dL_isTurned_130 ⟨Nat.le_of_ble_eq_true rfl, Nat.le_of_ble_eq_true rfl⟩) hAe hS (fun v_130 c_130 G_130 H locs hp_130 hY hS => ?_)
      obtain ⟨rfl, rfl, rfl⟩ := hp_130
      refine z_eqI (b := (G 1) ((n - q) % n)) (by rw [hg2_95]) ?_
      refine lv_istore (lv' := [(7, .int (zI ((G 1) ((n - q) % n)))), (0, .ref (ad (4, 0))), (1, .int (zI i)), (2, .int (zI n)), (3, .int (zI p)), (4, .int (zI w)), (5, .int (zI 1)), (6, .int (zI q))]) hx hb dL_isTurned_133 hl (by decide) rfl (fun ls hl => ?_)
      have hl := lv_sub hl [1, 2, 3, 4, 5, 6, 7, 0] rfl
      have hl : lv_has ls 8 [(0, .ref (ad (4, 0))), (1, .int (zI i)), (2, .int (zI n)), (3, .int (zI p)), (4, .int (zI w)), (5, .int (zI 1)), (6, .int (zI q)), (7, .int (zI ((G 1) ((n - q) % n))))] := hl
      refine lv_aload_n hx hb dL_isTurned_135 rfl (lv_at hl 0 rfl) ?_
      refine z_iconst hx hb dL_isTurned_136 ?_
      refine lv_iload hx hb dL_isTurned_137 (lv_at hl 6 rfl) ?_
      refine yc_call (va_runV (As := [.int (zI 3), .int (zI q)]) (rest := []) CF (y_at l D cI cW cP ad np pp pn pg b L xs hE c_95 G_95 3 q (by omega) (by omega) H.size) (cwV 2 hts gL_isTurned_X5_at rfl rfl rfl (by decide +kernel) ⟨Nat.le_of_ble_eq_true rfl, Nat.le_of_ble_eq_true rfl⟩) (yc_preV hK hX hbl hbA hS hY) rfl rfl hl.1 rfl (lv_room (Nat.le_of_ble_eq_true rfl)) dL_isTurned_139 ⟨Nat.le_of_ble_eq_true rfl, Nat.le_of_ble_eq_true rfl⟩) hAe hS (fun v_139 c_139 G_139 H locs hp_139 hY hS => ?_)
      obtain ⟨rfl, rfl, rfl⟩ := hp_139
      refine z_eqI (b := (zF1 (pp i) (pn i) (zF1 (pp i) (pn i) (G 1))) q) (by rw [hg_95]) ?_
      refine z_eqI (b := G 1 ((n - q) % n) % p * n % p) (by rw [hp_, hn_]; exact zF2 hpn (G 1) ⟨by omega, by omega⟩) ?_
      refine lv_iload hx hb dL_isTurned_142 (lv_at hl 7 rfl) ?_
      have hbb := hb1 ((n - q) % n)
      have htm := z_tm (x := G 1 ((n - q) % n)) (m := p) (by omega)
      refine lv_iload_n hx hb dL_isTurned_144 rfl (lv_at hl 3 rfl) ?_
      refine z_iremt hx hb dL_isTurned_145 (by omega) (by omega) ?_
      refine lv_iload_n hx hb dL_isTurned_146 rfl (lv_at hl 3 rfl) ?_
      refine z_iadd hx hb dL_isTurned_147 ?_
      refine lv_iload_n hx hb dL_isTurned_148 rfl (lv_at hl 3 rfl) ?_
      refine z_irem hx hb dL_isTurned_149 (by omega) (by omega) ?_
      have hm_149 := z_rem (a := (Int.tmod ((G 1) ((n - q) % n)) p) + p) (n := p) (by omega)
      have hmp := z_mulb (a := (Int.tmod (G 1 ((n - q) % n)) p + p) % p) (b := n) (A := 10000) (B := 64) (by omega) (by omega) (by omega) (by omega)
      refine lv_iload_n hx hb dL_isTurned_150 rfl (lv_at hl 2 rfl) ?_
      refine z_imul hx hb dL_isTurned_151 ?_
      refine lv_iload_n hx hb dL_isTurned_152 rfl (lv_at hl 3 rfl) ?_
      refine z_irem hx hb dL_isTurned_153 (by omega) (by omega) ?_
      have hm_153 := z_rem (a := (((Int.tmod ((G 1) ((n - q) % n)) p) + p) % p) * n) (n := p) (by omega)
      have hqq := z_rem (a := G 1 ((n - q) % n) % p * n) (n := p) (by omega)
      refine z_icmp_ne (tgt := 161) hx hb dL_isTurned_154 (by decide) (by omega) (fun c_154 => absurd c_154 (by exact fun z => z (by rw [z_tmm (by omega)]))) (fun c_154 => ?_)
      refine z_iconst hx hb dL_isTurned_157 ?_
      refine lv_goto (tgt := 162) hx hb dL_isTurned_158 (by decide) ?_
      refine lv_istore (lv' := [(5, .int (zI 1)), (0, .ref (ad (4, 0))), (1, .int (zI i)), (2, .int (zI n)), (3, .int (zI p)), (4, .int (zI w)), (6, .int (zI q)), (7, .int (zI ((G 1) ((n - q) % n))))]) hx hb dL_isTurned_162 hl (by decide) rfl (fun ls hl => ?_)
      have hl := lv_sub hl [1, 2, 3, 4, 5, 0, 6, 7] rfl
      have hl : lv_has ls 8 [(0, .ref (ad (4, 0))), (1, .int (zI i)), (2, .int (zI n)), (3, .int (zI p)), (4, .int (zI w)), (5, .int (zI 1)), (6, .int (zI q)), (7, .int (zI ((G 1) ((n - q) % n))))] := hl
      refine lv_iinc (v := zI (q + 1)) (lv' := [(6, .int (zI (q + 1))), (0, .ref (ad (4, 0))), (1, .int (zI i)), (2, .int (zI n)), (3, .int (zI p)), (4, .int (zI w)), (5, .int (zI 1)), (7, .int (zI ((G 1) ((n - q) % n))))]) hx hb dL_isTurned_164 hl (k := 6) rfl (zI_add _ _) (by decide) rfl (fun ls hl => ?_)
      have hl := lv_sub hl [1, 2, 3, 4, 5, 6, 0, 7] rfl
      have hl : lv_has ls 8 [(0, .ref (ad (4, 0))), (1, .int (zI i)), (2, .int (zI n)), (3, .int (zI p)), (4, .int (zI w)), (5, .int (zI 1)), (6, .int (zI (q + 1))), (7, .int (zI ((G 1) ((n - q) % n))))] := hl
      refine lv_goto (tgt := 111) hx hb dL_isTurned_167 (by decide) ?_
      exact ih_111 (q + 1) _ _ _ ⟨(by omega), hY, hS, lv_sub hl [0, 1, 2, 3, 4, 5, 6] rfl⟩ (by show (n - (q + 1)).toNat < (n - q).toNat; omega)
  · refine lv_iload hx hb dL_isTurned_34 (lv_at hl 5 rfl) ?_
    refine z_if_eq (tgt := 56) hx hb dL_isTurned_36 (by decide) (by omega) (fun c_36 => absurd c_36 (by omega)) (fun c_36 => ?_)
    refine lv_aload_n hx hb dL_isTurned_39 rfl (lv_at hl 0 rfl) ?_
    refine z_iconst hx hb dL_isTurned_40 ?_
    refine z_iconst hx hb dL_isTurned_41 ?_
    refine yc_call (va_runV (As := [.int (zI 3), .int (zI 0)]) (rest := []) CF (y_append l D cI cW cP ad np pp pn pg b L xs hE c_L28 G_L28 3 0 (by omega) (by omega) (by omega) H.size) (cwV 2 hts gL_isTurned_X5_append rfl rfl rfl (by decide +kernel) ⟨Nat.le_of_ble_eq_true rfl, Nat.le_of_ble_eq_true rfl⟩) (yc_preV hK hX hbl hbA hS hY) rfl rfl hl.1 rfl (lv_room (Nat.le_of_ble_eq_true rfl)) dL_isTurned_42 ⟨Nat.le_of_ble_eq_true rfl, Nat.le_of_ble_eq_true rfl⟩) hAe hS (fun v_42 c_42 G_42 H locs hp_42 hY hS => ?_)
    obtain ⟨rfl, hn_42, hg_42, ho_42⟩ := hp_42
    replace hn_42 : c_42 3 = k + 1 := hn_42.trans (by rw [hcL28_3])
    replace hg_42 : G_42 3 = zU (G 1) k 0 := hg_42.trans (by rw [hcL28_3, hgL28_3])
    have hc0_42 : c_42 0 = c_L28 0 := (ho_42 0 (by decide)).1
    have hg0_42 : G_42 0 = G_L28 0 := (ho_42 0 (by decide)).2
    have hc1_42 : c_42 1 = c 1 := (ho_42 1 (by decide)).1.trans hcL28_1
    have hg1_42 : G_42 1 = G 1 := (ho_42 1 (by decide)).2.trans hgL28_1
    have hc2_42 : c_42 2 = c_L28 2 := (ho_42 2 (by decide)).1
    have hg2_42 : G_42 2 = G_L28 2 := (ho_42 2 (by decide)).2
    refine z_eqI (b := k + 1) (by rw [hcL28_3]) ?_
    clear hcL28_1 hgL28_1 hcL28_3 hgL28_3
    refine lv_iload hx hb dL_isTurned_45 (lv_at hl 6 rfl) ?_
    refine z_iconst hx hb dL_isTurned_47 ?_
    refine z_iadd hx hb dL_isTurned_48 ?_
    refine z_icmp_ne (tgt := 56) hx hb dL_isTurned_49 (by decide) (by omega) (fun c_49 => absurd c_49 (by omega)) (fun c_49 => ?_)
    refine z_iconst hx hb dL_isTurned_52 ?_
    refine lv_goto (tgt := 57) hx hb dL_isTurned_53 (by decide) ?_
    refine lv_istore (lv' := [(5, .int (zI 1)), (0, .ref (ad (4, 0))), (1, .int (zI i)), (2, .int (zI n)), (3, .int (zI p)), (4, .int (zI w)), (6, .int (zI k))]) hx hb dL_isTurned_57 hl (by decide) rfl (fun ls hl => ?_)
    have hl := lv_sub hl [1, 2, 3, 4, 5, 0, 6] rfl
    have hl : lv_has ls 8 [(0, .ref (ad (4, 0))), (1, .int (zI i)), (2, .int (zI n)), (3, .int (zI p)), (4, .int (zI w)), (5, .int (zI 1)), (6, .int (zI k))] := hl
    refine lv_iinc (v := zI (k + 1)) (lv' := [(6, .int (zI (k + 1))), (0, .ref (ad (4, 0))), (1, .int (zI i)), (2, .int (zI n)), (3, .int (zI p)), (4, .int (zI w)), (5, .int (zI 1))]) hx hb dL_isTurned_59 hl (k := 6) rfl (zI_add _ _) (by decide) rfl (fun ls hl => ?_)
    have hl := lv_sub hl [1, 2, 3, 4, 5, 6, 0] rfl
    have hl : lv_has ls 8 [(0, .ref (ad (4, 0))), (1, .int (zI i)), (2, .int (zI n)), (3, .int (zI p)), (4, .int (zI w)), (5, .int (zI 1)), (6, .int (zI (k + 1)))] := hl
    refine lv_goto (tgt := 28) hx hb dL_isTurned_62 (by decide) ?_
    exact ih_28 (k + 1, c_42, G_42) _ _ _ ⟨(by omega), (by exact hc1_42), (by exact hg1_42), (by exact hn_42), (by exact hg_42.trans (zU_0 (hz1 k (by omega)))), hY, hS, hl⟩ (by show (n - (k + 1)).toNat < (n - k).toNat; omega)
end Q3
