section Q0
variable (l : Launch) (D : va_G) (cI cW cP : ClassId) (ad : zk → Nat) (np : Int) (pp pn : Int → Int) (pg : Int → Option Nat) (b L : Nat) (xs : Nat → Int32)
set_option maxHeartbeats 4000000 in
set_option maxRecDepth 100000 in
theorem q_isProductRight (hE : yE ad np b L) (c : Int → Int) (G : Int → Int → Int) (tn : Int) (x : Int) (htn : 0 ≤ tn ∧ tn ≤ 100) (hx_ : 0 ≤ x ∧ x ≤ 100000) : yC l yL_isProductRight wsL_isProductRight ({ frames := 4, cells := 0, slots := 0, locals := 99 } : Room) D cI cW cP ad np pp pn pg b L xs c G [.ref (ad (4, 0)), .ref b, .int (zI tn), .int (zI x)] (fun v c' G' => 1 = v) := by
  refine yc_start (cc := cL_isProductRight) (maxL := 9) (ret := (some .boolean)) (own := RL) hE rfl rfl (by decide) rfl rfl (Nat.le_of_ble_eq_true rfl) [(0, .ref (ad (4, 0))), (1, .ref b), (2, .int (zI tn)), (3, .int (zI x))] rfl ?_
  intro p_ e_ s m_ below meth cd A H ls hx hb hr hml hts hown hlocks hK hAe hX hbl hbA hY hS hl
  have CF : CallFix p_ m_ cd cL_isProductRight 9 s ([.ref (ad (4, 0)), .ref b, .int (zI tn), .int (zI x)] : List Value).toArray wsL_isProductRight RL := ⟨hx, hb, hml, hown, hts⟩
  refine z_iconst hx hb dL_isProductRight_0 ?_
  refine lv_iload_n hx hb dL_isProductRight_1 rfl (lv_at hl 3 rfl) ?_
  refine z_bipush hx hb dL_isProductRight_2 (by decide) ?_
  refine z_irem hx hb dL_isProductRight_4 (by omega) (by omega) ?_
  have hm_4 := z_rem (a := x) (n := 32) (by omega)
  refine z_iadd hx hb dL_isProductRight_5 ?_
  refine z_nameI (fun mn e_mn => ?_)
  refine lv_istore (lv' := [(4, .int (zI mn)), (0, .ref (ad (4, 0))), (1, .ref b), (2, .int (zI tn)), (3, .int (zI x))]) hx hb dL_isProductRight_6 hl (by decide) rfl (fun ls hl => ?_)
  have hl := lv_sub hl [1, 2, 3, 4, 0] rfl
  have hl : lv_has ls 9 [(0, .ref (ad (4, 0))), (1, .ref b), (2, .int (zI tn)), (3, .int (zI x)), (4, .int (zI mn))] := hl
  have hmn : 1 ≤ mn ∧ mn ≤ 32 := by omega
  clear e_mn hm_4
  refine z_iconst hx hb dL_isProductRight_8 ?_
  refine lv_iload_n hx hb dL_isProductRight_9 rfl (lv_at hl 3 rfl) ?_
  refine z_bipush hx hb dL_isProductRight_10 (by decide) ?_
  refine z_idiv hx hb dL_isProductRight_12 (by omega) (by omega) ?_
  refine z_bipush hx hb dL_isProductRight_13 (by decide) ?_
  refine z_irem hx hb dL_isProductRight_15 (by omega) (by omega) ?_
  have hm_15 := z_rem (a := x / 32) (n := 32) (by omega)
  refine z_iadd hx hb dL_isProductRight_16 ?_
  refine z_nameI (fun mr e_mr => ?_)
  refine lv_istore (lv' := [(5, .int (zI mr)), (0, .ref (ad (4, 0))), (1, .ref b), (2, .int (zI tn)), (3, .int (zI x)), (4, .int (zI mn))]) hx hb dL_isProductRight_17 hl (by decide) rfl (fun ls hl => ?_)
  have hl := lv_sub hl [1, 2, 3, 4, 5, 0] rfl
  have hl : lv_has ls 9 [(0, .ref (ad (4, 0))), (1, .ref b), (2, .int (zI tn)), (3, .int (zI x)), (4, .int (zI mn)), (5, .int (zI mr))] := hl
  have hmr : 1 ≤ mr ∧ mr ≤ 32 := by omega
  clear e_mr hm_15
  refine lv_aload_n hx hb dL_isProductRight_19 rfl (lv_at hl 0 rfl) ?_
  refine z_iconst hx hb dL_isProductRight_20 ?_
  refine lv_aload_n hx hb dL_isProductRight_21 rfl (lv_at hl 1 rfl) ?_
  refine lv_iload_n hx hb dL_isProductRight_22 rfl (lv_at hl 2 rfl) ?_
  refine lv_iload hx hb dL_isProductRight_23 (lv_at hl 4 rfl) ?_
  refine z_iconst hx hb dL_isProductRight_25 ?_
  refine z_bipush hx hb dL_isProductRight_26 (by decide) ?_
  refine yc_call (va_runS (As := [.ref (ad (4, 0)), .int (zI 0), .ref b, .int (zI tn), .int (zI mn), .int (zI 0), .int (zI 9)]) (rest := []) CF (q_isFilled l D cI cW cP ad np pp pn pg b L xs hE c G 0 tn mn 0 9 (by omega) (by omega) (by omega) (by omega) H.size) (va_cwS 7 hts gL_isProductRight_L_isFilled rfl rfl rfl (by decide +kernel) ⟨Nat.le_of_ble_eq_true rfl, Nat.le_of_ble_eq_true rfl⟩) (yc_preS hK hX hbl hbA hS hY) rfl rfl hl.1 rfl (lv_room (Nat.le_of_ble_eq_true rfl)) dL_isProductRight_28 ⟨Nat.le_of_ble_eq_true rfl, Nat.le_of_ble_eq_true rfl⟩) hAe hS (fun v_28 c_28 G_28 H locs hp_28 hY hS => ?_)
  obtain ⟨rfl, hn_28, hg_28, ho_28⟩ := hp_28
  have hc1_28 : c_28 1 = c 1 := (ho_28 1 (by decide)).1
  have hg1_28 : G_28 1 = G 1 := (ho_28 1 (by decide)).2
  have hc2_28 : c_28 2 = c 2 := (ho_28 2 (by decide)).1
  have hg2_28 : G_28 2 = G 2 := (ho_28 2 (by decide)).2
  have hc3_28 : c_28 3 = c 3 := (ho_28 3 (by decide)).1
  have hg3_28 : G_28 3 = G 3 := (ho_28 3 (by decide)).2
  refine z_if_eq (tgt := 90) hx hb dL_isProductRight_31 (by decide) (by omega) (fun c_31 => absurd c_31 (by omega)) (fun c_31 => ?_)
  refine lv_aload_n hx hb dL_isProductRight_34 rfl (lv_at hl 0 rfl) ?_
  refine z_iconst hx hb dL_isProductRight_35 ?_
  refine lv_aload_n hx hb dL_isProductRight_36 rfl (lv_at hl 1 rfl) ?_
  refine lv_iload_n hx hb dL_isProductRight_37 rfl (lv_at hl 2 rfl) ?_
  refine z_bipush hx hb dL_isProductRight_38 (by decide) ?_
  refine z_iadd hx hb dL_isProductRight_40 ?_
  refine lv_iload hx hb dL_isProductRight_41 (lv_at hl 5 rfl) ?_
  refine z_iconst hx hb dL_isProductRight_43 ?_
  refine z_bipush hx hb dL_isProductRight_44 (by decide) ?_
  refine yc_call (va_runS (As := [.ref (ad (4, 0)), .int (zI 1), .ref b, .int (zI (tn + 7)), .int (zI mr), .int (zI 0), .int (zI 9)]) (rest := []) CF (q_isFilled l D cI cW cP ad np pp pn pg b L xs hE c_28 G_28 1 (tn + 7) mr 0 9 (by omega) (by omega) (by omega) (by omega) H.size) (va_cwS 7 hts gL_isProductRight_L_isFilled rfl rfl rfl (by decide +kernel) ⟨Nat.le_of_ble_eq_true rfl, Nat.le_of_ble_eq_true rfl⟩) (yc_preS hK hX hbl hbA hS hY) rfl rfl hl.1 rfl (lv_room (Nat.le_of_ble_eq_true rfl)) dL_isProductRight_46 ⟨Nat.le_of_ble_eq_true rfl, Nat.le_of_ble_eq_true rfl⟩) hAe hS (fun v_46 c_46 G_46 H locs hp_46 hY hS => ?_)
  obtain ⟨rfl, hn_46, hg_46, ho_46⟩ := hp_46
  have hc0_46 : c_46 0 = mn := (ho_46 0 (by decide)).1.trans hn_28
  have hg0_46 : G_46 0 = G_28 0 := (ho_46 0 (by decide)).2
  have hc2_46 : c_46 2 = c 2 := (ho_46 2 (by decide)).1.trans hc2_28
  have hg2_46 : G_46 2 = G 2 := (ho_46 2 (by decide)).2.trans hg2_28
  have hc3_46 : c_46 3 = c 3 := (ho_46 3 (by decide)).1.trans hc3_28
  have hg3_46 : G_46 3 = G 3 := (ho_46 3 (by decide)).2.trans hg3_28
  clear hn_28 hc1_28 hg1_28 hc2_28 hg2_28 hc3_28 hg3_28 ho_28
  refine z_if_eq (tgt := 90) hx hb dL_isProductRight_49 (by decide) (by omega) (fun c_49 => absurd c_49 (by omega)) (fun c_49 => ?_)
  refine lv_aload_n hx hb dL_isProductRight_52 rfl (lv_at hl 0 rfl) ?_
  refine z_iconst hx hb dL_isProductRight_53 ?_
  refine z_iconst hx hb dL_isProductRight_54 ?_
  refine z_iconst hx hb dL_isProductRight_55 ?_
  refine yc_call (va_runV (As := [.int (zI 0), .int (zI 1), .int (zI 2)]) (rest := []) CF (y_multiply l D cI cW cP ad np pp pn pg b L xs hE c_46 G_46 0 1 2 (by omega) (by omega) (by omega) (by omega) (by omega) (by omega) (by omega) (by exact fun k => by rw [hg0_46]; exact hg_28 k) (by exact hg_46) (by omega) H.size) (cwV 3 hts gL_isProductRight_X5_multiply rfl rfl rfl (by decide +kernel) ⟨Nat.le_of_ble_eq_true rfl, Nat.le_of_ble_eq_true rfl⟩) (yc_preV hK hX hbl hbA hS hY) rfl rfl hl.1 rfl (lv_room (Nat.le_of_ble_eq_true rfl)) dL_isProductRight_56 ⟨Nat.le_of_ble_eq_true rfl, Nat.le_of_ble_eq_true rfl⟩) hAe hS (fun v_56 c_56 G_56 H locs hp_56 hY hS => ?_)
  obtain ⟨rfl, hn_56, hg_56, ho_56⟩ := hp_56
  replace hn_56 : c_56 2 = ndI (lin (G_28 0) mn (G_46 1) mr) (mn + mr) := hn_56.trans (by rw [hn_46, hc0_46, hg0_46])
  replace hg_56 : G_56 2 = rowAt (dgI (lin (G_28 0) mn (G_46 1) mr)) (ndI (lin (G_28 0) mn (G_46 1) mr) (mn + mr)) := hg_56.trans (by rw [hn_46, hc0_46, hg0_46])
  have hc1_56 : c_56 1 = mr := (ho_56 1 (by decide)).1.trans hn_46
  have hg1_56 : G_56 1 = G_46 1 := (ho_56 1 (by decide)).2
  have hc0_56 : c_56 0 = mn := (ho_56 0 (by decide)).1.trans hc0_46
  have hg0_56 : G_56 0 = G_28 0 := (ho_56 0 (by decide)).2.trans hg0_46
  have hc3_56 : c_56 3 = c 3 := (ho_56 3 (by decide)).1.trans hc3_46
  have hg3_56 : G_56 3 = G 3 := (ho_56 3 (by decide)).2.trans hg3_46
  refine z_eqI (b := ndI (lin (G_28 0) mn (G_46 1) mr) (mn + mr)) (by rw [hn_46, hc0_46, hg0_46]) ?_
  clear hn_46 hc0_46 hg0_46 hc2_46 hg2_46 hc3_46 hg3_46 ho_46
  have hnd := ndI_rng (L := (lin (G_28 0) mn (G_46 1) mr)) (mn + mr) (by omega)
  have hLc : (lin (G_46 1) mr (G_28 0) mn) = (lin (G_28 0) mn (G_46 1) mr) := lin_com (by omega) (by omega)
  refine z_if_le (tgt := 90) hx hb dL_isProductRight_59 (by decide) (by omega) (fun c_59 => absurd c_59 (by omega)) (fun c_59 => ?_)
  refine lv_aload_n hx hb dL_isProductRight_62 rfl (lv_at hl 0 rfl) ?_
  refine z_iconst hx hb dL_isProductRight_63 ?_
  refine z_iconst hx hb dL_isProductRight_64 ?_
  refine z_iconst hx hb dL_isProductRight_65 ?_
  refine yc_call (va_runV (As := [.int (zI 1), .int (zI 0), .int (zI 3)]) (rest := []) CF (y_multiply l D cI cW cP ad np pp pn pg b L xs hE c_56 G_56 1 0 3 (by omega) (by omega) (by omega) (by omega) (by omega) (by omega) (by omega) (by exact fun k => by rw [hg1_56]; exact hg_46 k) (by exact fun k => by rw [hg0_56]; exact hg_28 k) (by omega) H.size) (cwV 3 hts gL_isProductRight_X5_multiply rfl rfl rfl (by decide +kernel) ⟨Nat.le_of_ble_eq_true rfl, Nat.le_of_ble_eq_true rfl⟩) (yc_preV hK hX hbl hbA hS hY) rfl rfl hl.1 rfl (lv_room (Nat.le_of_ble_eq_true rfl)) dL_isProductRight_66 ⟨Nat.le_of_ble_eq_true rfl, Nat.le_of_ble_eq_true rfl⟩) hAe hS (fun v_66 c_66 G_66 H locs hp_66 hY hS => ?_)
  obtain ⟨rfl, hn_66, hg_66, ho_66⟩ := hp_66
  replace hn_66 : c_66 3 = ndI (lin (G_46 1) mr (G_28 0) mn) (mr + mn) := hn_66.trans (by rw [hc1_56, hg1_56, hc0_56, hg0_56])
  replace hg_66 : G_66 3 = rowAt (dgI (lin (G_46 1) mr (G_28 0) mn)) (ndI (lin (G_46 1) mr (G_28 0) mn) (mr + mn)) := hg_66.trans (by rw [hc1_56, hg1_56, hc0_56, hg0_56])
  have hc2_66 : c_66 2 = ndI (lin (G_28 0) mn (G_46 1) mr) (mn + mr) := (ho_66 2 (by decide)).1.trans hn_56
  have hg2_66 : G_66 2 = rowAt (dgI (lin (G_28 0) mn (G_46 1) mr)) (ndI (lin (G_28 0) mn (G_46 1) mr) (mn + mr)) := (ho_66 2 (by decide)).2.trans hg_56
  have hc1_66 : c_66 1 = mr := (ho_66 1 (by decide)).1.trans hc1_56
  have hg1_66 : G_66 1 = G_46 1 := (ho_66 1 (by decide)).2.trans hg1_56
  have hc0_66 : c_66 0 = mn := (ho_66 0 (by decide)).1.trans hc0_56
  have hg0_66 : G_66 0 = G_28 0 := (ho_66 0 (by decide)).2.trans hg0_56
  refine z_eqI (b := ndI (lin (G_46 1) mr (G_28 0) mn) (mr + mn)) (by rw [hc1_56, hg1_56, hc0_56, hg0_56]) ?_
  clear hn_56 hg_56 hc1_56 hg1_56 hc0_56 hg0_56 hc3_56 hg3_56 ho_56
  refine z_eqI (b := ndI (lin (G_28 0) mn (G_46 1) mr) (mn + mr)) (by rw [hLc, Int.add_comm mr mn]) ?_
  refine lv_aload_n hx hb dL_isProductRight_69 rfl (lv_at hl 0 rfl) ?_
  refine z_iconst hx hb dL_isProductRight_70 ?_
  refine yc_call (va_runV (As := [.int (zI 2)]) (rest := [.int (zI (ndI (lin (G_28 0) mn (G_46 1) mr) (mn + mr)))]) CF (y_length l D cI cW cP ad np pp pn pg b L xs hE c_66 G_66 2 (by omega) H.size) (cwV 1 hts gL_isProductRight_X5_length rfl rfl rfl (by decide +kernel) ⟨Nat.le_of_ble_eq_true rfl, Nat.le_of_ble_eq_true rfl⟩) (yc_preV hK hX hbl hbA hS hY) rfl rfl hl.1 rfl (lv_room (Nat.le_of_ble_eq_true rfl)) dL_isProductRight_71 ⟨Nat.le_of_ble_eq_true rfl, Nat.le_of_ble_eq_true rfl⟩) hAe hS (fun v_71 c_71 G_71 H locs hp_71 hY hS => ?_)
  obtain ⟨rfl, rfl, rfl⟩ := hp_71
  refine z_eqI (b := (ndI (lin (G_28 0) mn (G_46 1) mr) (mn + mr))) (by rw [hc2_66]) ?_
  refine z_icmp_ne (tgt := 90) hx hb dL_isProductRight_74 (by decide) (by omega) (fun c_74 => absurd c_74 (by omega)) (fun c_74 => ?_)
  refine lv_aload_n hx hb dL_isProductRight_77 rfl (lv_at hl 0 rfl) ?_
  refine z_iconst hx hb dL_isProductRight_78 ?_
  refine z_iconst hx hb dL_isProductRight_79 ?_
  refine yc_call (va_runS (As := [.ref (ad (4, 0)), .int (zI 2), .int (zI 3)]) (rest := []) CF (q_areAlike l D cI cW cP ad np pp pn pg b L xs hE c_66 G_66 2 3 (by omega) (by omega) (by rw [hc2_66, hn_66, hLc, Int.add_comm mr mn]) (by exact fun k h1 h2 => by rw [hg2_66, hg_66, hLc, Int.add_comm mr mn]) H.size) (va_cwS 3 hts gL_isProductRight_L_areAlike rfl rfl rfl (by decide +kernel) ⟨Nat.le_of_ble_eq_true rfl, Nat.le_of_ble_eq_true rfl⟩) (yc_preS hK hX hbl hbA hS hY) rfl rfl hl.1 rfl (lv_room (Nat.le_of_ble_eq_true rfl)) dL_isProductRight_80 ⟨Nat.le_of_ble_eq_true rfl, Nat.le_of_ble_eq_true rfl⟩) hAe hS (fun v_80 c_80 G_80 H locs hp_80 hY hS => ?_)
  obtain ⟨rfl, rfl, rfl⟩ := hp_80
  refine z_if_eq (tgt := 90) hx hb dL_isProductRight_83 (by decide) (by omega) (fun c_83 => absurd c_83 (by omega)) (fun c_83 => ?_)
  refine z_iconst hx hb dL_isProductRight_86 ?_
  refine lv_goto (tgt := 91) hx hb dL_isProductRight_87 (by decide) ?_
  refine lv_istore (lv' := [(6, .int (zI 1)), (0, .ref (ad (4, 0))), (1, .ref b), (2, .int (zI tn)), (3, .int (zI x)), (4, .int (zI mn)), (5, .int (zI mr))]) hx hb dL_isProductRight_91 hl (by decide) rfl (fun ls hl => ?_)
  have hl := lv_sub hl [1, 2, 3, 4, 5, 6, 0] rfl
  have hl : lv_has ls 9 [(0, .ref (ad (4, 0))), (1, .ref b), (2, .int (zI tn)), (3, .int (zI x)), (4, .int (zI mn)), (5, .int (zI mr)), (6, .int (zI 1))] := hl
  refine z_bipush hx hb dL_isProductRight_93 (by decide) ?_
  refine lv_istore (lv' := [(7, .int (zI 7)), (0, .ref (ad (4, 0))), (1, .ref b), (2, .int (zI tn)), (3, .int (zI x)), (4, .int (zI mn)), (5, .int (zI mr)), (6, .int (zI 1))]) hx hb dL_isProductRight_95 hl (by decide) rfl (fun ls hl => ?_)
  have hl := lv_sub hl [1, 2, 3, 4, 5, 6, 7, 0] rfl
  have hl : lv_has ls 9 [(0, .ref (ad (4, 0))), (1, .ref b), (2, .int (zI tn)), (3, .int (zI x)), (4, .int (zI mn)), (5, .int (zI mr)), (6, .int (zI 1)), (7, .int (zI 7))] := hl
  refine z_loop (σ := Int) (fun m => (9000 - m).toNat) (fun m H locs ls => (7 ≤ m ∧ m ≤ 27002) ∧ (yS D cI cW cP ad np pp pn pg c_66 G_66 H) ∧ (va_S A s.heap H locs) ∧ (lv_has ls 9 [(0, .ref (ad (4, 0))), (1, .ref b), (2, .int (zI tn)), (3, .int (zI x)), (4, .int (zI mn)), (5, .int (zI mr)), (6, .int (zI 1)), (7, .int (zI m))])) 7 ⟨(by omega), hY, hS, hl⟩ ?_
  intro m H locs ls hI ih_97
  obtain ⟨hm_, hY, hS, hl⟩ := hI
  refine lv_iload hx hb dL_isProductRight_97 (lv_at hl 7 rfl) ?_
  refine z_sipush hx hb dL_isProductRight_99 (by decide) ?_
  refine z_icmp_ge (tgt := 162) hx hb dL_isProductRight_102 (by decide) (by omega) (fun c_102 => ?_) (fun c_102 => ?_)
  · refine z_iconst hx hb dL_isProductRight_162 ?_
    refine lv_istore (lv' := [(7, .int (zI 1)), (0, .ref (ad (4, 0))), (1, .ref b), (2, .int (zI tn)), (3, .int (zI x)), (4, .int (zI mn)), (5, .int (zI mr)), (6, .int (zI 1))]) hx hb dL_isProductRight_163 hl (by decide) rfl (fun ls hl => ?_)
    have hl := lv_sub hl [1, 2, 3, 4, 5, 6, 7, 0] rfl
    have hl : lv_has ls 9 [(0, .ref (ad (4, 0))), (1, .ref b), (2, .int (zI tn)), (3, .int (zI x)), (4, .int (zI mn)), (5, .int (zI mr)), (6, .int (zI 1)), (7, .int (zI 1))] := hl
    refine z_iconst hx hb dL_isProductRight_165 ?_
    refine lv_istore (lv' := [(8, .int (zI 0)), (0, .ref (ad (4, 0))), (1, .ref b), (2, .int (zI tn)), (3, .int (zI x)), (4, .int (zI mn)), (5, .int (zI mr)), (6, .int (zI 1)), (7, .int (zI 1))]) hx hb dL_isProductRight_166 hl (by decide) rfl (fun ls hl => ?_)
    have hl := lv_sub hl [1, 2, 3, 4, 5, 6, 7, 8, 0] rfl
    have hl : lv_has ls 9 [(0, .ref (ad (4, 0))), (1, .ref b), (2, .int (zI tn)), (3, .int (zI x)), (4, .int (zI mn)), (5, .int (zI mr)), (6, .int (zI 1)), (7, .int (zI 1)), (8, .int (zI 0))] := hl
    refine z_loop (σ := Int × Int) (fun (k, z) => (ndI (lin (G_28 0) mn (G_46 1) mr) (mn + mr) - k).toNat) (fun (k, z) H locs ls => (0 ≤ k ∧ k ≤ ndI (lin (G_28 0) mn (G_46 1) mr) (mn + mr)) ∧ (z = 0 ∨ z = 1) ∧ (z = 1 → ∀ j, 0 ≤ j → j < k → dgI (lin (G_28 0) mn (G_46 1) mr) j = 0) ∧ (yS D cI cW cP ad np pp pn pg c_66 G_66 H) ∧ (va_S A s.heap H locs) ∧ (lv_has ls 9 [(0, .ref (ad (4, 0))), (1, .ref b), (2, .int (zI tn)), (3, .int (zI x)), (4, .int (zI mn)), (5, .int (zI mr)), (6, .int (zI 1)), (7, .int (zI z)), (8, .int (zI k))])) (0, 1) ⟨(by omega), (by omega), (by exact fun _ j h1 h2 => absurd h2 (by omega)), hY, hS, hl⟩ ?_
    intro ⟨k, z⟩ H locs ls hI ih_168
    obtain ⟨hk_, hz, hzz, hY, hS, hl⟩ := hI
    refine lv_iload hx hb dL_isProductRight_168 (lv_at hl 8 rfl) ?_
    refine lv_aload_n hx hb dL_isProductRight_170 rfl (lv_at hl 0 rfl) ?_
    refine z_iconst hx hb dL_isProductRight_171 ?_
    refine yc_call (va_runV (As := [.int (zI 2)]) (rest := [.int (zI k)]) CF (y_length l D cI cW cP ad np pp pn pg b L xs hE c_66 G_66 2 (by omega) H.size) (cwV 1 hts gL_isProductRight_X5_length rfl rfl rfl (by decide +kernel) ⟨Nat.le_of_ble_eq_true rfl, Nat.le_of_ble_eq_true rfl⟩) (yc_preV hK hX hbl hbA hS hY) rfl rfl hl.1 rfl (lv_room (Nat.le_of_ble_eq_true rfl)) dL_isProductRight_172 ⟨Nat.le_of_ble_eq_true rfl, Nat.le_of_ble_eq_true rfl⟩) hAe hS (fun v_172 c_172 G_172 H locs hp_172 hY hS => ?_)
    obtain ⟨rfl, rfl, rfl⟩ := hp_172
    refine z_eqI (b := (ndI (lin (G_28 0) mn (G_46 1) mr) (mn + mr))) (by rw [hc2_66]) ?_
    refine z_icmp_ge (tgt := 240) hx hb dL_isProductRight_175 (by decide) (by omega) (fun c_175 => ?_) (fun c_175 => ?_)
    · refine lv_iload hx hb dL_isProductRight_240 (lv_at hl 6 rfl) ?_
      refine z_if_eq (tgt := 291) hx hb dL_isProductRight_242 (by decide) (by omega) (fun c_242 => absurd c_242 (by omega)) (fun c_242 => ?_)
      refine lv_aload_n hx hb dL_isProductRight_245 rfl (lv_at hl 0 rfl) ?_
      refine z_iconst hx hb dL_isProductRight_246 ?_
      refine yc_call (va_runV (As := [.int (zI 2)]) (rest := []) CF (y_length l D cI cW cP ad np pp pn pg b L xs hE c_66 G_66 2 (by omega) H.size) (cwV 1 hts gL_isProductRight_X5_length rfl rfl rfl (by decide +kernel) ⟨Nat.le_of_ble_eq_true rfl, Nat.le_of_ble_eq_true rfl⟩) (yc_preV hK hX hbl hbA hS hY) rfl rfl hl.1 rfl (lv_room (Nat.le_of_ble_eq_true rfl)) dL_isProductRight_247 ⟨Nat.le_of_ble_eq_true rfl, Nat.le_of_ble_eq_true rfl⟩) hAe hS (fun v_247 c_247 G_247 H locs hp_247 hY hS => ?_)
      obtain ⟨rfl, rfl, rfl⟩ := hp_247
      refine z_eqI (b := (ndI (lin (G_28 0) mn (G_46 1) mr) (mn + mr))) (by rw [hc2_66]) ?_
      refine lv_iload hx hb dL_isProductRight_250 (lv_at hl 4 rfl) ?_
      refine lv_iload hx hb dL_isProductRight_252 (lv_at hl 5 rfl) ?_
      refine z_iadd hx hb dL_isProductRight_254 ?_
      refine z_icmp_gt (tgt := 291) hx hb dL_isProductRight_255 (by decide) (by omega) (fun c_255 => absurd c_255 (by omega)) (fun c_255 => ?_)
      refine lv_aload_n hx hb dL_isProductRight_258 rfl (lv_at hl 0 rfl) ?_
      refine z_iconst hx hb dL_isProductRight_259 ?_
      refine yc_call (va_runV (As := [.int (zI 2)]) (rest := []) CF (y_length l D cI cW cP ad np pp pn pg b L xs hE c_66 G_66 2 (by omega) H.size) (cwV 1 hts gL_isProductRight_X5_length rfl rfl rfl (by decide +kernel) ⟨Nat.le_of_ble_eq_true rfl, Nat.le_of_ble_eq_true rfl⟩) (yc_preV hK hX hbl hbA hS hY) rfl rfl hl.1 rfl (lv_room (Nat.le_of_ble_eq_true rfl)) dL_isProductRight_260 ⟨Nat.le_of_ble_eq_true rfl, Nat.le_of_ble_eq_true rfl⟩) hAe hS (fun v_260 c_260 G_260 H locs hp_260 hY hS => ?_)
      obtain ⟨rfl, rfl, rfl⟩ := hp_260
      refine z_eqI (b := (ndI (lin (G_28 0) mn (G_46 1) mr) (mn + mr))) (by rw [hc2_66]) ?_
      refine z_iconst hx hb dL_isProductRight_263 ?_
      refine z_icmp_eq (tgt := 287) hx hb dL_isProductRight_264 (by decide) (by omega) (fun c_264 => ?_) (fun c_264 => ?_)
      · refine z_iconst hx hb dL_isProductRight_287 ?_
        refine lv_goto (tgt := 292) hx hb dL_isProductRight_288 (by decide) ?_
        exact y_iret hx hb hr hlocks 1 (rfl) (by exact rfl) hY hAe hS dL_isProductRight_292
      · refine lv_iload hx hb dL_isProductRight_267 (lv_at hl 7 rfl) ?_
        refine z_if_ne (tgt := 291) hx hb dL_isProductRight_269 (by decide) (by omega) (fun c_269 => absurd c_269 (by exact fun w => by rcases hz with hz | hz; (exact w hz); exact (nd_last (L := (lin (G_28 0) mn (G_46 1) mr)) (mn + mr) (by omega)).resolve_left c_264 (hzz hz _ (by omega) (by omega)))) (fun c_269 => ?_)
        refine lv_aload_n hx hb dL_isProductRight_272 rfl (lv_at hl 0 rfl) ?_
        refine z_iconst hx hb dL_isProductRight_273 ?_
        refine lv_aload_n hx hb dL_isProductRight_274 rfl (lv_at hl 0 rfl) ?_
        refine z_iconst hx hb dL_isProductRight_275 ?_
        refine yc_call (va_runV (As := [.int (zI 2)]) (rest := [.int (zI 2), .ref (ad (4, 0))]) CF (y_length l D cI cW cP ad np pp pn pg b L xs hE c_66 G_66 2 (by omega) H.size) (cwV 1 hts gL_isProductRight_X5_length rfl rfl rfl (by decide +kernel) ⟨Nat.le_of_ble_eq_true rfl, Nat.le_of_ble_eq_true rfl⟩) (yc_preV hK hX hbl hbA hS hY) rfl rfl hl.1 rfl (lv_room (Nat.le_of_ble_eq_true rfl)) dL_isProductRight_276 ⟨Nat.le_of_ble_eq_true rfl, Nat.le_of_ble_eq_true rfl⟩) hAe hS (fun v_276 c_276 G_276 H locs hp_276 hY hS => ?_)
        obtain ⟨rfl, rfl, rfl⟩ := hp_276
        refine z_eqI (b := (ndI (lin (G_28 0) mn (G_46 1) mr) (mn + mr))) (by rw [hc2_66]) ?_
        refine z_iconst hx hb dL_isProductRight_279 ?_
        refine z_isub hx hb dL_isProductRight_280 ?_
        refine yc_call (va_runV (As := [.int (zI 2), .int (zI ((ndI (lin (G_28 0) mn (G_46 1) mr) (mn + mr)) - 1))]) (rest := []) CF (y_at l D cI cW cP ad np pp pn pg b L xs hE c_66 G_66 2 ((ndI (lin (G_28 0) mn (G_46 1) mr) (mn + mr)) - 1) (by omega) (by omega) H.size) (cwV 2 hts gL_isProductRight_X5_at rfl rfl rfl (by decide +kernel) ⟨Nat.le_of_ble_eq_true rfl, Nat.le_of_ble_eq_true rfl⟩) (yc_preV hK hX hbl hbA hS hY) rfl rfl hl.1 rfl (lv_room (Nat.le_of_ble_eq_true rfl)) dL_isProductRight_281 ⟨Nat.le_of_ble_eq_true rfl, Nat.le_of_ble_eq_true rfl⟩) hAe hS (fun v_281 c_281 G_281 H locs hp_281 hY hS => ?_)
        obtain ⟨rfl, rfl, rfl⟩ := hp_281
        refine z_eqI (b := (rowAt (dgI (lin (G_28 0) mn (G_46 1) mr)) (ndI (lin (G_28 0) mn (G_46 1) mr) (mn + mr))) ((ndI (lin (G_28 0) mn (G_46 1) mr) (mn + mr)) - 1)) (by rw [hg2_66]) ?_
        refine z_eqI (b := dgI (lin (G_28 0) mn (G_46 1) mr) (ndI (lin (G_28 0) mn (G_46 1) mr) (mn + mr) - 1)) (by exact rowAt_in ⟨by omega, by omega⟩) ?_
        have hdl : 0 ≤ dgI (lin (G_28 0) mn (G_46 1) mr) (ndI (lin (G_28 0) mn (G_46 1) mr) (mn + mr) - 1) ∧ dgI (lin (G_28 0) mn (G_46 1) mr) (ndI (lin (G_28 0) mn (G_46 1) mr) (mn + mr) - 1) < 10 := z_rem (by decide)
        have hdn := (nd_last (L := (lin (G_28 0) mn (G_46 1) mr)) (mn + mr) (by omega)).resolve_left c_264
        refine z_if_le (tgt := 291) hx hb dL_isProductRight_284 (by decide) (by omega) (fun c_284 => absurd c_284 (by omega)) (fun c_284 => ?_)
        refine z_iconst hx hb dL_isProductRight_287 ?_
        refine lv_goto (tgt := 292) hx hb dL_isProductRight_288 (by decide) ?_
        exact y_iret hx hb hr hlocks 1 (rfl) (by exact rfl) hY hAe hS dL_isProductRight_292
    · refine lv_iload hx hb dL_isProductRight_178 (lv_at hl 6 rfl) ?_
      refine z_if_eq (tgt := 209) hx hb dL_isProductRight_180 (by decide) (by omega) (fun c_180 => absurd c_180 (by omega)) (fun c_180 => ?_)
      refine lv_aload_n hx hb dL_isProductRight_183 rfl (lv_at hl 0 rfl) ?_
      refine z_iconst hx hb dL_isProductRight_184 ?_
      refine lv_iload hx hb dL_isProductRight_185 (lv_at hl 8 rfl) ?_
      refine yc_call (va_runV (As := [.int (zI 2), .int (zI k)]) (rest := []) CF (y_at l D cI cW cP ad np pp pn pg b L xs hE c_66 G_66 2 k (by omega) (by omega) H.size) (cwV 2 hts gL_isProductRight_X5_at rfl rfl rfl (by decide +kernel) ⟨Nat.le_of_ble_eq_true rfl, Nat.le_of_ble_eq_true rfl⟩) (yc_preV hK hX hbl hbA hS hY) rfl rfl hl.1 rfl (lv_room (Nat.le_of_ble_eq_true rfl)) dL_isProductRight_187 ⟨Nat.le_of_ble_eq_true rfl, Nat.le_of_ble_eq_true rfl⟩) hAe hS (fun v_187 c_187 G_187 H locs hp_187 hY hS => ?_)
      obtain ⟨rfl, rfl, rfl⟩ := hp_187
      refine z_eqI (b := (rowAt (dgI (lin (G_28 0) mn (G_46 1) mr)) (ndI (lin (G_28 0) mn (G_46 1) mr) (mn + mr))) k) (by rw [hg2_66]) ?_
      refine z_eqI (b := dgI (lin (G_28 0) mn (G_46 1) mr) k) (by exact rowAt_in ⟨by omega, by omega⟩) ?_
      have hdk : 0 ≤ dgI (lin (G_28 0) mn (G_46 1) mr)  k ∧ dgI (lin (G_28 0) mn (G_46 1) mr)  k < 10 := z_rem (by decide)
      refine z_if_lt (tgt := 209) hx hb dL_isProductRight_190 (by decide) (by omega) (fun c_190 => absurd c_190 (by omega)) (fun c_190 => ?_)
      refine lv_aload_n hx hb dL_isProductRight_193 rfl (lv_at hl 0 rfl) ?_
      refine z_iconst hx hb dL_isProductRight_194 ?_
      refine lv_iload hx hb dL_isProductRight_195 (lv_at hl 8 rfl) ?_
      refine yc_call (va_runV (As := [.int (zI 2), .int (zI k)]) (rest := []) CF (y_at l D cI cW cP ad np pp pn pg b L xs hE c_66 G_66 2 k (by omega) (by omega) H.size) (cwV 2 hts gL_isProductRight_X5_at rfl rfl rfl (by decide +kernel) ⟨Nat.le_of_ble_eq_true rfl, Nat.le_of_ble_eq_true rfl⟩) (yc_preV hK hX hbl hbA hS hY) rfl rfl hl.1 rfl (lv_room (Nat.le_of_ble_eq_true rfl)) dL_isProductRight_197 ⟨Nat.le_of_ble_eq_true rfl, Nat.le_of_ble_eq_true rfl⟩) hAe hS (fun v_197 c_197 G_197 H locs hp_197 hY hS => ?_)
      obtain ⟨rfl, rfl, rfl⟩ := hp_197
      refine z_eqI (b := (rowAt (dgI (lin (G_28 0) mn (G_46 1) mr)) (ndI (lin (G_28 0) mn (G_46 1) mr) (mn + mr))) k) (by rw [hg2_66]) ?_
      refine z_eqI (b := dgI (lin (G_28 0) mn (G_46 1) mr) k) (by exact rowAt_in ⟨by omega, by omega⟩) ?_
      refine z_bipush hx hb dL_isProductRight_200 (by decide) ?_
      refine z_icmp_gt (tgt := 209) hx hb dL_isProductRight_202 (by decide) (by omega) (fun c_202 => absurd c_202 (by omega)) (fun c_202 => ?_)
      refine z_iconst hx hb dL_isProductRight_205 ?_
      refine lv_goto (tgt := 210) hx hb dL_isProductRight_206 (by decide) ?_
      refine lv_istore (lv' := [(6, .int (zI 1)), (0, .ref (ad (4, 0))), (1, .ref b), (2, .int (zI tn)), (3, .int (zI x)), (4, .int (zI mn)), (5, .int (zI mr)), (7, .int (zI z)), (8, .int (zI k))]) hx hb dL_isProductRight_210 hl (by decide) rfl (fun ls hl => ?_)
      have hl := lv_sub hl [1, 2, 3, 4, 5, 6, 0, 7, 8] rfl
      have hl : lv_has ls 9 [(0, .ref (ad (4, 0))), (1, .ref b), (2, .int (zI tn)), (3, .int (zI x)), (4, .int (zI mn)), (5, .int (zI mr)), (6, .int (zI 1)), (7, .int (zI z)), (8, .int (zI k))] := hl
      refine lv_iload hx hb dL_isProductRight_212 (lv_at hl 7 rfl) ?_
      refine z_if_eq (tgt := 231) hx hb dL_isProductRight_214 (by decide) (by omega) (fun c_214 => ?_) (fun c_214 => ?_)
      · refine z_iconst hx hb dL_isProductRight_231 ?_
        refine lv_istore (lv' := [(7, .int (zI 0)), (0, .ref (ad (4, 0))), (1, .ref b), (2, .int (zI tn)), (3, .int (zI x)), (4, .int (zI mn)), (5, .int (zI mr)), (6, .int (zI 1)), (8, .int (zI k))]) hx hb dL_isProductRight_232 hl (by decide) rfl (fun ls hl => ?_)
        have hl := lv_sub hl [1, 2, 3, 4, 5, 6, 7, 0, 8] rfl
        have hl : lv_has ls 9 [(0, .ref (ad (4, 0))), (1, .ref b), (2, .int (zI tn)), (3, .int (zI x)), (4, .int (zI mn)), (5, .int (zI mr)), (6, .int (zI 1)), (7, .int (zI 0)), (8, .int (zI k))] := hl
        refine lv_iinc (v := zI (k + 1)) (lv' := [(8, .int (zI (k + 1))), (0, .ref (ad (4, 0))), (1, .ref b), (2, .int (zI tn)), (3, .int (zI x)), (4, .int (zI mn)), (5, .int (zI mr)), (6, .int (zI 1)), (7, .int (zI 0))]) hx hb dL_isProductRight_234 hl (k := 8) rfl (zI_add _ _) (by decide) rfl (fun ls hl => ?_)
        have hl := lv_sub hl [1, 2, 3, 4, 5, 6, 7, 8, 0] rfl
        have hl : lv_has ls 9 [(0, .ref (ad (4, 0))), (1, .ref b), (2, .int (zI tn)), (3, .int (zI x)), (4, .int (zI mn)), (5, .int (zI mr)), (6, .int (zI 1)), (7, .int (zI 0)), (8, .int (zI (k + 1)))] := hl
        refine lv_goto (tgt := 168) hx hb dL_isProductRight_237 (by decide) ?_
        exact ih_168 (k + 1, 0) _ _ _ ⟨(by omega), (by omega), (fun q => absurd q (by decide)), hY, hS, hl⟩ (by show (ndI (lin (G_28 0) mn (G_46 1) mr) (mn + mr) - (k + 1)).toNat < (ndI (lin (G_28 0) mn (G_46 1) mr) (mn + mr) - k).toNat; omega)
      · refine lv_aload_n hx hb dL_isProductRight_217 rfl (lv_at hl 0 rfl) ?_
        refine z_iconst hx hb dL_isProductRight_218 ?_
        refine lv_iload hx hb dL_isProductRight_219 (lv_at hl 8 rfl) ?_
        refine yc_call (va_runV (As := [.int (zI 2), .int (zI k)]) (rest := []) CF (y_at l D cI cW cP ad np pp pn pg b L xs hE c_66 G_66 2 k (by omega) (by omega) H.size) (cwV 2 hts gL_isProductRight_X5_at rfl rfl rfl (by decide +kernel) ⟨Nat.le_of_ble_eq_true rfl, Nat.le_of_ble_eq_true rfl⟩) (yc_preV hK hX hbl hbA hS hY) rfl rfl hl.1 rfl (lv_room (Nat.le_of_ble_eq_true rfl)) dL_isProductRight_221 ⟨Nat.le_of_ble_eq_true rfl, Nat.le_of_ble_eq_true rfl⟩) hAe hS (fun v_221 c_221 G_221 H locs hp_221 hY hS => ?_)
        obtain ⟨rfl, rfl, rfl⟩ := hp_221
        refine z_eqI (b := (rowAt (dgI (lin (G_28 0) mn (G_46 1) mr)) (ndI (lin (G_28 0) mn (G_46 1) mr) (mn + mr))) k) (by rw [hg2_66]) ?_
        refine z_eqI (b := dgI (lin (G_28 0) mn (G_46 1) mr) k) (by exact rowAt_in ⟨by omega, by omega⟩) ?_
        refine z_if_ne (tgt := 231) hx hb dL_isProductRight_224 (by decide) (by omega) (fun c_224 => ?_) (fun c_224 => ?_)
        · refine z_iconst hx hb dL_isProductRight_231 ?_
          refine lv_istore (lv' := [(7, .int (zI 0)), (0, .ref (ad (4, 0))), (1, .ref b), (2, .int (zI tn)), (3, .int (zI x)), (4, .int (zI mn)), (5, .int (zI mr)), (6, .int (zI 1)), (8, .int (zI k))]) hx hb dL_isProductRight_232 hl (by decide) rfl (fun ls hl => ?_)
          have hl := lv_sub hl [1, 2, 3, 4, 5, 6, 7, 0, 8] rfl
          have hl : lv_has ls 9 [(0, .ref (ad (4, 0))), (1, .ref b), (2, .int (zI tn)), (3, .int (zI x)), (4, .int (zI mn)), (5, .int (zI mr)), (6, .int (zI 1)), (7, .int (zI 0)), (8, .int (zI k))] := hl
          refine lv_iinc (v := zI (k + 1)) (lv' := [(8, .int (zI (k + 1))), (0, .ref (ad (4, 0))), (1, .ref b), (2, .int (zI tn)), (3, .int (zI x)), (4, .int (zI mn)), (5, .int (zI mr)), (6, .int (zI 1)), (7, .int (zI 0))]) hx hb dL_isProductRight_234 hl (k := 8) rfl (zI_add _ _) (by decide) rfl (fun ls hl => ?_)
          have hl := lv_sub hl [1, 2, 3, 4, 5, 6, 7, 8, 0] rfl
          have hl : lv_has ls 9 [(0, .ref (ad (4, 0))), (1, .ref b), (2, .int (zI tn)), (3, .int (zI x)), (4, .int (zI mn)), (5, .int (zI mr)), (6, .int (zI 1)), (7, .int (zI 0)), (8, .int (zI (k + 1)))] := hl
          refine lv_goto (tgt := 168) hx hb dL_isProductRight_237 (by decide) ?_
          exact ih_168 (k + 1, 0) _ _ _ ⟨(by omega), (by omega), (fun q => absurd q (by decide)), hY, hS, hl⟩ (by show (ndI (lin (G_28 0) mn (G_46 1) mr) (mn + mr) - (k + 1)).toNat < (ndI (lin (G_28 0) mn (G_46 1) mr) (mn + mr) - k).toNat; omega)
        · refine z_iconst hx hb dL_isProductRight_227 ?_
          refine lv_goto (tgt := 232) hx hb dL_isProductRight_228 (by decide) ?_
          refine lv_istore (lv' := [(7, .int (zI 1)), (0, .ref (ad (4, 0))), (1, .ref b), (2, .int (zI tn)), (3, .int (zI x)), (4, .int (zI mn)), (5, .int (zI mr)), (6, .int (zI 1)), (8, .int (zI k))]) hx hb dL_isProductRight_232 hl (by decide) rfl (fun ls hl => ?_)
          have hl := lv_sub hl [1, 2, 3, 4, 5, 6, 7, 0, 8] rfl
          have hl : lv_has ls 9 [(0, .ref (ad (4, 0))), (1, .ref b), (2, .int (zI tn)), (3, .int (zI x)), (4, .int (zI mn)), (5, .int (zI mr)), (6, .int (zI 1)), (7, .int (zI 1)), (8, .int (zI k))] := hl
          refine lv_iinc (v := zI (k + 1)) (lv' := [(8, .int (zI (k + 1))), (0, .ref (ad (4, 0))), (1, .ref b), (2, .int (zI tn)), (3, .int (zI x)), (4, .int (zI mn)), (5, .int (zI mr)), (6, .int (zI 1)), (7, .int (zI 1))]) hx hb dL_isProductRight_234 hl (k := 8) rfl (zI_add _ _) (by decide) rfl (fun ls hl => ?_)
          have hl := lv_sub hl [1, 2, 3, 4, 5, 6, 7, 8, 0] rfl
          have hl : lv_has ls 9 [(0, .ref (ad (4, 0))), (1, .ref b), (2, .int (zI tn)), (3, .int (zI x)), (4, .int (zI mn)), (5, .int (zI mr)), (6, .int (zI 1)), (7, .int (zI 1)), (8, .int (zI (k + 1)))] := hl
          refine lv_goto (tgt := 168) hx hb dL_isProductRight_237 (by decide) ?_
          exact ih_168 (k + 1, 1) _ _ _ ⟨(by omega), (by omega), (fun _ j h1 h2 => by by_cases e : j = k; (subst e; exact c_224); exact hzz (by omega) j h1 (by omega)), hY, hS, hl⟩ (by show (ndI (lin (G_28 0) mn (G_46 1) mr) (mn + mr) - (k + 1)).toNat < (ndI (lin (G_28 0) mn (G_46 1) mr) (mn + mr) - k).toNat; omega)
  · refine lv_iload hx hb dL_isProductRight_105 (lv_at hl 6 rfl) ?_
    refine z_if_eq (tgt := 162) hx hb dL_isProductRight_107 (by decide) (by omega) (fun c_107 => absurd c_107 (by omega)) (fun c_107 => ?_)
    refine lv_aload_n hx hb dL_isProductRight_110 rfl (lv_at hl 0 rfl) ?_
    refine z_iconst hx hb dL_isProductRight_111 ?_
    refine z_bipush hx hb dL_isProductRight_112 (by decide) ?_
    refine lv_iload hx hb dL_isProductRight_114 (lv_at hl 7 rfl) ?_
    refine yc_call (va_runS (As := [.ref (ad (4, 0)), .int (zI 2), .int (zI 10), .int (zI m)]) (rest := []) CF (q_value l D cI cW cP ad np pp pn pg b L xs hE c_66 G_66 2 10 m (by omega) (by omega) (by omega) H.size) (va_cwS 4 hts gL_isProductRight_L_value rfl rfl rfl (by decide +kernel) ⟨Nat.le_of_ble_eq_true rfl, Nat.le_of_ble_eq_true rfl⟩) (yc_preS hK hX hbl hbA hS hY) rfl rfl hl.1 rfl (lv_room (Nat.le_of_ble_eq_true rfl)) dL_isProductRight_116 ⟨Nat.le_of_ble_eq_true rfl, Nat.le_of_ble_eq_true rfl⟩) hAe hS (fun v_116 c_116 G_116 H locs hp_116 hY hS => ?_)
    obtain ⟨rfl, rfl, rfl⟩ := hp_116
    refine z_eqI (b := zPy (rowAt (dgI (lin (G_28 0) mn (G_46 1) mr)) (ndI (lin (G_28 0) mn (G_46 1) mr) (mn + mr))) 10 (ndI (lin (G_28 0) mn (G_46 1) mr) (mn + mr)) % m) (by rw [hc2_66, hg2_66]) ?_
    refine lv_aload_n hx hb dL_isProductRight_119 rfl (lv_at hl 0 rfl) ?_
    refine z_iconst hx hb dL_isProductRight_120 ?_
    refine z_bipush hx hb dL_isProductRight_121 (by decide) ?_
    refine lv_iload hx hb dL_isProductRight_123 (lv_at hl 7 rfl) ?_
    refine yc_call (va_runS (As := [.ref (ad (4, 0)), .int (zI 0), .int (zI 10), .int (zI m)]) (rest := [.int (zI (zPy (rowAt (dgI (lin (G_28 0) mn (G_46 1) mr)) (ndI (lin (G_28 0) mn (G_46 1) mr) (mn + mr))) 10 (ndI (lin (G_28 0) mn (G_46 1) mr) (mn + mr)) % m))]) CF (q_value l D cI cW cP ad np pp pn pg b L xs hE c_66 G_66 0 10 m (by omega) (by omega) (by omega) H.size) (va_cwS 4 hts gL_isProductRight_L_value rfl rfl rfl (by decide +kernel) ⟨Nat.le_of_ble_eq_true rfl, Nat.le_of_ble_eq_true rfl⟩) (yc_preS hK hX hbl hbA hS hY) rfl rfl hl.1 rfl (lv_room (Nat.le_of_ble_eq_true rfl)) dL_isProductRight_125 ⟨Nat.le_of_ble_eq_true rfl, Nat.le_of_ble_eq_true rfl⟩) hAe hS (fun v_125 c_125 G_125 H locs hp_125 hY hS => ?_)
    obtain ⟨rfl, rfl, rfl⟩ := hp_125
    refine z_eqI (b := zPy (G_28 0) 10 mn % m) (by rw [hc0_66, hg0_66]) ?_
    refine lv_aload_n hx hb dL_isProductRight_128 rfl (lv_at hl 0 rfl) ?_
    refine z_iconst hx hb dL_isProductRight_129 ?_
    refine z_bipush hx hb dL_isProductRight_130 (by decide) ?_
    refine lv_iload hx hb dL_isProductRight_132 (lv_at hl 7 rfl) ?_
    refine yc_call (va_runS (As := [.ref (ad (4, 0)), .int (zI 1), .int (zI 10), .int (zI m)]) (rest := [.int (zI (zPy (G_28 0) 10 mn % m)), .int (zI (zPy (rowAt (dgI (lin (G_28 0) mn (G_46 1) mr)) (ndI (lin (G_28 0) mn (G_46 1) mr) (mn + mr))) 10 (ndI (lin (G_28 0) mn (G_46 1) mr) (mn + mr)) % m))]) CF (q_value l D cI cW cP ad np pp pn pg b L xs hE c_66 G_66 1 10 m (by omega) (by omega) (by omega) H.size) (va_cwS 4 hts gL_isProductRight_L_value rfl rfl rfl (by decide +kernel) ⟨Nat.le_of_ble_eq_true rfl, Nat.le_of_ble_eq_true rfl⟩) (yc_preS hK hX hbl hbA hS hY) rfl rfl hl.1 rfl (lv_room (Nat.le_of_ble_eq_true rfl)) dL_isProductRight_134 ⟨Nat.le_of_ble_eq_true rfl, Nat.le_of_ble_eq_true rfl⟩) hAe hS (fun v_134 c_134 G_134 H locs hp_134 hY hS => ?_)
    obtain ⟨rfl, rfl, rfl⟩ := hp_134
    refine z_eqI (b := zPy (G_46 1) 10 mr % m) (by rw [hc1_66, hg1_66]) ?_
    have hqA := z_rem (a := zPy (G_28 0) 10 mn) (n := m) (by omega)
    have hqB := z_rem (a := zPy (G_46 1) 10 mr) (n := m) (by omega)
    have hqAB := z_mulb (a := zPy (G_28 0) 10 mn % m) (b := zPy (G_46 1) 10 mr % m) (A := 10000) (B := 10000) (by omega) (by omega) (by omega) (by omega)
    have hqC := z_rem (a := zPy (rowAt (dgI (lin (G_28 0) mn (G_46 1) mr)) (ndI (lin (G_28 0) mn (G_46 1) mr) (mn + mr))) 10 (ndI (lin (G_28 0) mn (G_46 1) mr) (mn + mr))) (n := m) (by omega)
    refine z_imul hx hb dL_isProductRight_137 ?_
    refine lv_iload hx hb dL_isProductRight_138 (lv_at hl 7 rfl) ?_
    refine z_irem hx hb dL_isProductRight_140 (by omega) (by omega) ?_
    have hm_140 := z_rem (a := (zPy (G_28 0) 10 mn % m) * (zPy (G_46 1) 10 mr % m)) (n := m) (by omega)
    refine z_icmp_ne (tgt := 148) hx hb dL_isProductRight_141 (by decide) (by omega) (fun c_141 => absurd c_141 (by exact fun q => q (by rw [val_mul ⟨by omega, by omega⟩ (by omega) hg_28 hg_46]; exact Int.mul_emod _ _ _))) (fun c_141 => ?_)
    refine z_iconst hx hb dL_isProductRight_144 ?_
    refine lv_goto (tgt := 149) hx hb dL_isProductRight_145 (by decide) ?_
    refine lv_istore (lv' := [(6, .int (zI 1)), (0, .ref (ad (4, 0))), (1, .ref b), (2, .int (zI tn)), (3, .int (zI x)), (4, .int (zI mn)), (5, .int (zI mr)), (7, .int (zI m))]) hx hb dL_isProductRight_149 hl (by decide) rfl (fun ls hl => ?_)
    have hl := lv_sub hl [1, 2, 3, 4, 5, 6, 0, 7] rfl
    have hl : lv_has ls 9 [(0, .ref (ad (4, 0))), (1, .ref b), (2, .int (zI tn)), (3, .int (zI x)), (4, .int (zI mn)), (5, .int (zI mr)), (6, .int (zI 1)), (7, .int (zI m))] := hl
    refine z_iconst hx hb dL_isProductRight_151 ?_
    refine lv_iload hx hb dL_isProductRight_152 (lv_at hl 7 rfl) ?_
    refine z_imul hx hb dL_isProductRight_154 ?_
    refine z_iconst hx hb dL_isProductRight_155 ?_
    refine z_iadd hx hb dL_isProductRight_156 ?_
    refine lv_istore (lv' := [(7, .int (zI ((3 * m) + 2))), (0, .ref (ad (4, 0))), (1, .ref b), (2, .int (zI tn)), (3, .int (zI x)), (4, .int (zI mn)), (5, .int (zI mr)), (6, .int (zI 1))]) hx hb dL_isProductRight_157 hl (by decide) rfl (fun ls hl => ?_)
    have hl := lv_sub hl [1, 2, 3, 4, 5, 6, 7, 0] rfl
    have hl : lv_has ls 9 [(0, .ref (ad (4, 0))), (1, .ref b), (2, .int (zI tn)), (3, .int (zI x)), (4, .int (zI mn)), (5, .int (zI mr)), (6, .int (zI 1)), (7, .int (zI ((3 * m) + 2)))] := hl
    refine lv_goto (tgt := 97) hx hb dL_isProductRight_159 (by decide) ?_
    exact ih_97 ((3 * m) + 2) _ _ _ ⟨(by omega), hY, hS, hl⟩ (by show (9000 - ((3 * m) + 2)).toNat < (9000 - m).toNat; omega)
end Q0
