section Q1
variable (l : Launch) (D : va_G) (cI cW cP : ClassId) (ad : zk → Nat) (np : Int) (pp pn : Int → Int) (pg : Int → Option Nat) (b L : Nat) (xs : Nat → Int32)
set_option maxHeartbeats 4000000 in
set_option maxRecDepth 100000 in
theorem q_isFilterRight (hE : yE ad np b L) (c : Int → Int) (G : Int → Int → Int) (tn : Int) (x : Int) (htn : 0 ≤ tn ∧ tn ≤ 100) (hx_ : 0 ≤ x ∧ x ≤ 100000) : yC l yL_isFilterRight wsL_isFilterRight ({ frames := 4, cells := 0, slots := 0, locals := 105 } : Room) D cI cW cP ad np pp pn pg b L xs c G [.ref (ad (4, 0)), .ref b, .int (zI tn), .int (zI x)] (fun v c' G' => 1 = v ∧ (1 ≤ c' 0 ∧ c' 0 ≤ 40) ∧ (1 ≤ c' 1 ∧ c' 1 ≤ 24) ∧ (c' 2 = c' 0 + c' 1 - 1) ∧ (G' 2 = rowAt (lin (G' 0) (c' 0) (G' 1) (c' 1)) (c' 0 + c' 1 - 1))) := by
  refine yc_start (cc := cL_isFilterRight) (maxL := 8) (ret := (some .boolean)) (own := RL) hE rfl rfl (by decide) rfl rfl (Nat.le_of_ble_eq_true rfl) [(0, .ref (ad (4, 0))), (1, .ref b), (2, .int (zI tn)), (3, .int (zI x))] rfl ?_
  intro p_ e_ s m_ below meth cd A H ls hx hb hr hml hts hown hlocks hK hAe hX hbl hbA hY hS hl
  have CF : CallFix p_ m_ cd cL_isFilterRight 8 s ([.ref (ad (4, 0)), .ref b, .int (zI tn), .int (zI x)] : List Value).toArray wsL_isFilterRight RL := ⟨hx, hb, hml, hown, hts⟩
  refine z_iconst hx hb dL_isFilterRight_0 ?_
  refine lv_iload_n hx hb dL_isFilterRight_1 rfl (lv_at hl 3 rfl) ?_
  refine z_bipush hx hb dL_isFilterRight_2 (by decide) ?_
  refine z_irem hx hb dL_isFilterRight_4 (by omega) (by omega) ?_
  have hm_4 := z_rem (a := x) (n := 40) (by omega)
  refine z_iadd hx hb dL_isFilterRight_5 ?_
  refine z_nameI (fun mn e_mn => ?_)
  refine lv_istore (lv' := [(4, .int (zI mn)), (0, .ref (ad (4, 0))), (1, .ref b), (2, .int (zI tn)), (3, .int (zI x))]) hx hb dL_isFilterRight_6 hl (by decide) rfl (fun ls hl => ?_)
  have hl := lv_sub hl [1, 2, 3, 4, 0] rfl
  have hl : lv_has ls 8 [(0, .ref (ad (4, 0))), (1, .ref b), (2, .int (zI tn)), (3, .int (zI x)), (4, .int (zI mn))] := hl
  have hmn : 1 ≤ mn ∧ mn ≤ 40 := by omega
  clear e_mn hm_4
  refine z_iconst hx hb dL_isFilterRight_8 ?_
  refine lv_iload_n hx hb dL_isFilterRight_9 rfl (lv_at hl 3 rfl) ?_
  refine z_bipush hx hb dL_isFilterRight_10 (by decide) ?_
  refine z_idiv hx hb dL_isFilterRight_12 (by omega) (by omega) ?_
  refine z_bipush hx hb dL_isFilterRight_13 (by decide) ?_
  refine z_irem hx hb dL_isFilterRight_15 (by omega) (by omega) ?_
  have hm_15 := z_rem (a := x / 40) (n := 24) (by omega)
  refine z_iadd hx hb dL_isFilterRight_16 ?_
  refine z_nameI (fun mr e_mr => ?_)
  refine lv_istore (lv' := [(5, .int (zI mr)), (0, .ref (ad (4, 0))), (1, .ref b), (2, .int (zI tn)), (3, .int (zI x)), (4, .int (zI mn))]) hx hb dL_isFilterRight_17 hl (by decide) rfl (fun ls hl => ?_)
  have hl := lv_sub hl [1, 2, 3, 4, 5, 0] rfl
  have hl : lv_has ls 8 [(0, .ref (ad (4, 0))), (1, .ref b), (2, .int (zI tn)), (3, .int (zI x)), (4, .int (zI mn)), (5, .int (zI mr))] := hl
  have hmr : 1 ≤ mr ∧ mr ≤ 24 := by omega
  clear e_mr hm_15
  refine lv_aload_n hx hb dL_isFilterRight_19 rfl (lv_at hl 0 rfl) ?_
  refine z_iconst hx hb dL_isFilterRight_20 ?_
  refine lv_aload_n hx hb dL_isFilterRight_21 rfl (lv_at hl 1 rfl) ?_
  refine lv_iload_n hx hb dL_isFilterRight_22 rfl (lv_at hl 2 rfl) ?_
  refine z_iconst hx hb dL_isFilterRight_23 ?_
  refine z_iadd hx hb dL_isFilterRight_24 ?_
  refine lv_iload hx hb dL_isFilterRight_25 (lv_at hl 4 rfl) ?_
  refine z_bipush hx hb dL_isFilterRight_27 (by decide) ?_
  refine z_bipush hx hb dL_isFilterRight_29 (by decide) ?_
  refine yc_call (va_runS (As := [.ref (ad (4, 0)), .int (zI 0), .ref b, .int (zI (tn + 3)), .int (zI mn), .int (zI (-99)), .int (zI 99)]) (rest := []) CF (q_isFilled l D cI cW cP ad np pp pn pg b L xs hE c G 0 (tn + 3) mn (-99) 99 (by omega) (by omega) (by omega) (by omega) H.size) (va_cwS 7 hts gL_isFilterRight_L_isFilled rfl rfl rfl (by decide +kernel) ⟨Nat.le_of_ble_eq_true rfl, Nat.le_of_ble_eq_true rfl⟩) (yc_preS hK hX hbl hbA hS hY) rfl rfl hl.1 rfl (lv_room (Nat.le_of_ble_eq_true rfl)) dL_isFilterRight_31 ⟨Nat.le_of_ble_eq_true rfl, Nat.le_of_ble_eq_true rfl⟩) hAe hS (fun v_31 c_31 G_31 H locs hp_31 hY hS => ?_)
  obtain ⟨rfl, hn_31, hg_31, ho_31⟩ := hp_31
  have hc1_31 : c_31 1 = c 1 := (ho_31 1 (by decide)).1
  have hg1_31 : G_31 1 = G 1 := (ho_31 1 (by decide)).2
  have hc2_31 : c_31 2 = c 2 := (ho_31 2 (by decide)).1
  have hg2_31 : G_31 2 = G 2 := (ho_31 2 (by decide)).2
  have hc3_31 : c_31 3 = c 3 := (ho_31 3 (by decide)).1
  have hg3_31 : G_31 3 = G 3 := (ho_31 3 (by decide)).2
  refine z_if_eq (tgt := 84) hx hb dL_isFilterRight_34 (by decide) (by omega) (fun c_34 => absurd c_34 (by omega)) (fun c_34 => ?_)
  refine lv_aload_n hx hb dL_isFilterRight_37 rfl (lv_at hl 0 rfl) ?_
  refine z_iconst hx hb dL_isFilterRight_38 ?_
  refine lv_aload_n hx hb dL_isFilterRight_39 rfl (lv_at hl 1 rfl) ?_
  refine lv_iload_n hx hb dL_isFilterRight_40 rfl (lv_at hl 2 rfl) ?_
  refine z_bipush hx hb dL_isFilterRight_41 (by decide) ?_
  refine z_iadd hx hb dL_isFilterRight_43 ?_
  refine lv_iload hx hb dL_isFilterRight_44 (lv_at hl 5 rfl) ?_
  refine z_bipush hx hb dL_isFilterRight_46 (by decide) ?_
  refine z_bipush hx hb dL_isFilterRight_48 (by decide) ?_
  refine yc_call (va_runS (As := [.ref (ad (4, 0)), .int (zI 1), .ref b, .int (zI (tn + 11)), .int (zI mr), .int (zI (-99)), .int (zI 99)]) (rest := []) CF (q_isFilled l D cI cW cP ad np pp pn pg b L xs hE c_31 G_31 1 (tn + 11) mr (-99) 99 (by omega) (by omega) (by omega) (by omega) H.size) (va_cwS 7 hts gL_isFilterRight_L_isFilled rfl rfl rfl (by decide +kernel) ⟨Nat.le_of_ble_eq_true rfl, Nat.le_of_ble_eq_true rfl⟩) (yc_preS hK hX hbl hbA hS hY) rfl rfl hl.1 rfl (lv_room (Nat.le_of_ble_eq_true rfl)) dL_isFilterRight_50 ⟨Nat.le_of_ble_eq_true rfl, Nat.le_of_ble_eq_true rfl⟩) hAe hS (fun v_50 c_50 G_50 H locs hp_50 hY hS => ?_)
  obtain ⟨rfl, hn_50, hg_50, ho_50⟩ := hp_50
  have hc0_50 : c_50 0 = mn := (ho_50 0 (by decide)).1.trans hn_31
  have hg0_50 : G_50 0 = G_31 0 := (ho_50 0 (by decide)).2
  have hc2_50 : c_50 2 = c 2 := (ho_50 2 (by decide)).1.trans hc2_31
  have hg2_50 : G_50 2 = G 2 := (ho_50 2 (by decide)).2.trans hg2_31
  have hc3_50 : c_50 3 = c 3 := (ho_50 3 (by decide)).1.trans hc3_31
  have hg3_50 : G_50 3 = G 3 := (ho_50 3 (by decide)).2.trans hg3_31
  clear hn_31 hc1_31 hg1_31 hc2_31 hg2_31 hc3_31 hg3_31 ho_31
  refine z_if_eq (tgt := 84) hx hb dL_isFilterRight_53 (by decide) (by omega) (fun c_53 => absurd c_53 (by omega)) (fun c_53 => ?_)
  refine lv_aload_n hx hb dL_isFilterRight_56 rfl (lv_at hl 0 rfl) ?_
  refine z_iconst hx hb dL_isFilterRight_57 ?_
  refine z_iconst hx hb dL_isFilterRight_58 ?_
  refine z_iconst hx hb dL_isFilterRight_59 ?_
  refine z_iconst hx hb dL_isFilterRight_60 ?_
  refine lv_iload_n hx hb dL_isFilterRight_61 rfl (lv_at hl 3 rfl) ?_
  refine z_bipush hx hb dL_isFilterRight_62 (by decide) ?_
  refine z_irem hx hb dL_isFilterRight_64 (by omega) (by omega) ?_
  have hm_64 := z_rem (a := x) (n := 32) (by omega)
  refine z_iadd hx hb dL_isFilterRight_65 ?_
  refine z_nameI (fun b0 e_b0 => ?_)
  have hb0 : 1 ≤ b0 ∧ b0 ≤ 32 := by omega
  clear e_b0 hm_64
  refine z_iconst hx hb dL_isFilterRight_66 ?_
  refine yc_call (va_runV (As := [.int (zI 0), .int (zI 1), .int (zI 2), .int (zI b0), .int (zI 0)]) (rest := []) CF (y_filter l D cI cW cP ad np pp pn pg b L xs hE c_50 G_50 0 1 2 b0 0 (by omega) (by omega) (by omega) (by omega) (by omega) (by omega) (by omega) (by exact fun k => by rw [hg0_50]; exact hg_31 k) (by exact hg_50) (by omega) (by omega) (by omega) H.size) (cwV 5 hts gL_isFilterRight_X5_filter rfl rfl rfl (by decide +kernel) ⟨Nat.le_of_ble_eq_true rfl, Nat.le_of_ble_eq_true rfl⟩) (yc_preV hK hX hbl hbA hS hY) rfl rfl hl.1 rfl (lv_room (Nat.le_of_ble_eq_true rfl)) dL_isFilterRight_67 ⟨Nat.le_of_ble_eq_true rfl, Nat.le_of_ble_eq_true rfl⟩) hAe hS (fun v_67 c_67 G_67 H locs hp_67 hY hS => ?_)
  obtain ⟨rfl, hn_67, hg_67, ho_67⟩ := hp_67
  replace hn_67 : c_67 2 = mn + mr - 1 := hn_67.trans (by rw [hn_50, hc0_50])
  replace hg_67 : G_67 2 = rowAt (lin (G_31 0) mn (G_50 1) mr) (mn + mr - 1) := hg_67.trans (by rw [hn_50, hc0_50, hg0_50])
  have hc1_67 : c_67 1 = mr := (ho_67 1 (by decide)).1.trans hn_50
  have hg1_67 : G_67 1 = G_50 1 := (ho_67 1 (by decide)).2
  have hc0_67 : c_67 0 = mn := (ho_67 0 (by decide)).1.trans hc0_50
  have hg0_67 : G_67 0 = G_31 0 := (ho_67 0 (by decide)).2.trans hg0_50
  have hc3_67 : c_67 3 = c 3 := (ho_67 3 (by decide)).1.trans hc3_50
  have hg3_67 : G_67 3 = G 3 := (ho_67 3 (by decide)).2.trans hg3_50
  refine z_eqI (b := mn + mr - 1) (by rw [hn_50, hc0_50]) ?_
  clear hn_50 hc0_50 hg0_50 hc2_50 hg2_50 hc3_50 hg3_50 ho_50
  refine lv_iload hx hb dL_isFilterRight_70 (lv_at hl 4 rfl) ?_
  refine lv_iload hx hb dL_isFilterRight_72 (lv_at hl 5 rfl) ?_
  refine z_iadd hx hb dL_isFilterRight_74 ?_
  refine z_iconst hx hb dL_isFilterRight_75 ?_
  refine z_isub hx hb dL_isFilterRight_76 ?_
  refine z_icmp_ne (tgt := 84) hx hb dL_isFilterRight_77 (by decide) (by omega) (fun c_77 => absurd c_77 (by omega)) (fun c_77 => ?_)
  refine z_iconst hx hb dL_isFilterRight_80 ?_
  refine lv_goto (tgt := 85) hx hb dL_isFilterRight_81 (by decide) ?_
  refine lv_istore (lv' := [(6, .int (zI 1)), (0, .ref (ad (4, 0))), (1, .ref b), (2, .int (zI tn)), (3, .int (zI x)), (4, .int (zI mn)), (5, .int (zI mr))]) hx hb dL_isFilterRight_85 hl (by decide) rfl (fun ls hl => ?_)
  have hl := lv_sub hl [1, 2, 3, 4, 5, 6, 0] rfl
  have hl : lv_has ls 8 [(0, .ref (ad (4, 0))), (1, .ref b), (2, .int (zI tn)), (3, .int (zI x)), (4, .int (zI mn)), (5, .int (zI mr)), (6, .int (zI 1))] := hl
  refine z_iconst hx hb dL_isFilterRight_87 ?_
  refine lv_iload_n hx hb dL_isFilterRight_88 rfl (lv_at hl 3 rfl) ?_
  refine z_iconst hx hb dL_isFilterRight_89 ?_
  refine z_irem hx hb dL_isFilterRight_90 (by omega) (by omega) ?_
  have hm_90 := z_rem (a := x) (n := 3) (by omega)
  refine z_iadd hx hb dL_isFilterRight_91 ?_
  refine z_nameI (fun b1 e_b1 => ?_)
  have hb1 : 1 ≤ b1 ∧ b1 ≤ 3 := by omega
  clear e_b1 hm_90
  refine lv_istore (lv' := [(7, .int (zI b1)), (0, .ref (ad (4, 0))), (1, .ref b), (2, .int (zI tn)), (3, .int (zI x)), (4, .int (zI mn)), (5, .int (zI mr)), (6, .int (zI 1))]) hx hb dL_isFilterRight_92 hl (by decide) rfl (fun ls hl => ?_)
  have hl := lv_sub hl [1, 2, 3, 4, 5, 6, 7, 0] rfl
  have hl : lv_has ls 8 [(0, .ref (ad (4, 0))), (1, .ref b), (2, .int (zI tn)), (3, .int (zI x)), (4, .int (zI mn)), (5, .int (zI mr)), (6, .int (zI 1)), (7, .int (zI b1))] := hl
  refine z_loop (σ := Int × (Int → Int) × (Int → Int → Int)) (fun (bl, c_L94, G_L94) => (33 - bl).toNat) (fun (bl, c_L94, G_L94) H locs ls => (1 ≤ bl ∧ bl ≤ 37) ∧ (c_L94 0 = mn) ∧ (G_L94 0 = G_31 0) ∧ (c_L94 1 = mr) ∧ (G_L94 1 = G_50 1) ∧ (c_L94 2 = mn + mr - 1) ∧ (G_L94 2 = rowAt (lin (G_31 0) mn (G_50 1) mr) (mn + mr - 1)) ∧ (yS D cI cW cP ad np pp pn pg c_L94 G_L94 H) ∧ (va_S A s.heap H locs) ∧ (lv_has ls 8 [(0, .ref (ad (4, 0))), (1, .ref b), (2, .int (zI tn)), (3, .int (zI x)), (4, .int (zI mn)), (5, .int (zI mr)), (6, .int (zI 1)), (7, .int (zI bl))])) (b1, c_67, G_67) ⟨(by omega), (by exact hc0_67), (by exact hg0_67), (by exact hc1_67), (by exact hg1_67), (by exact hn_67), (by exact hg_67), hY, hS, hl⟩ ?_
  intro ⟨bl, c_L94, G_L94⟩ H locs ls hI ih_94
  obtain ⟨hbl_, hcL94_0, hgL94_0, hcL94_1, hgL94_1, hcL94_2, hgL94_2, hY, hS, hl⟩ := hI
  refine lv_iload hx hb dL_isFilterRight_94 (lv_at hl 7 rfl) ?_
  refine z_bipush hx hb dL_isFilterRight_96 (by decide) ?_
  refine z_icmp_gt (tgt := 177) hx hb dL_isFilterRight_98 (by decide) (by omega) (fun c_98 => ?_) (fun c_98 => ?_)
  · refine z_iconst hx hb dL_isFilterRight_177 ?_
    refine lv_istore (lv' := [(7, .int (zI 0)), (0, .ref (ad (4, 0))), (1, .ref b), (2, .int (zI tn)), (3, .int (zI x)), (4, .int (zI mn)), (5, .int (zI mr)), (6, .int (zI 1))]) hx hb dL_isFilterRight_178 hl (by decide) rfl (fun ls hl => ?_)
    have hl := lv_sub hl [1, 2, 3, 4, 5, 6, 7, 0] rfl
    have hl : lv_has ls 8 [(0, .ref (ad (4, 0))), (1, .ref b), (2, .int (zI tn)), (3, .int (zI x)), (4, .int (zI mn)), (5, .int (zI mr)), (6, .int (zI 1)), (7, .int (zI 0))] := hl
    refine z_loop (σ := Int) (fun w => (9 - w).toNat) (fun w H locs ls => (0 ≤ w ∧ w ≤ 9) ∧ (yS D cI cW cP ad np pp pn pg c_L94 G_L94 H) ∧ (va_S A s.heap H locs) ∧ (lv_has ls 8 [(0, .ref (ad (4, 0))), (1, .ref b), (2, .int (zI tn)), (3, .int (zI x)), (4, .int (zI mn)), (5, .int (zI mr)), (6, .int (zI 1)), (7, .int (zI w))])) 0 ⟨(by omega), hY, hS, hl⟩ ?_
    intro w H locs ls hI ih_180
    obtain ⟨hw_, hY, hS, hl⟩ := hI
    refine lv_iload hx hb dL_isFilterRight_180 (lv_at hl 7 rfl) ?_
    refine z_bipush hx hb dL_isFilterRight_182 (by decide) ?_
    refine z_icmp_ge (tgt := 243) hx hb dL_isFilterRight_184 (by decide) (by omega) (fun c_184 => ?_) (fun c_184 => ?_)
    · refine lv_iload hx hb dL_isFilterRight_243 (lv_at hl 6 rfl) ?_
      exact y_iret hx hb hr hlocks 1 (rfl) (by exact ⟨rfl, by omega, by omega, by omega, by rw [hgL94_2, hgL94_0, hgL94_1, hcL94_0, hcL94_1]⟩) hY hAe hS dL_isFilterRight_245
    · refine lv_iload hx hb dL_isFilterRight_187 (lv_at hl 6 rfl) ?_
      refine z_if_eq (tgt := 243) hx hb dL_isFilterRight_189 (by decide) (by omega) (fun c_189 => absurd c_189 (by omega)) (fun c_189 => ?_)
      refine lv_aload_n hx hb dL_isFilterRight_192 rfl (lv_at hl 0 rfl) ?_
      refine z_iconst hx hb dL_isFilterRight_193 ?_
      refine lv_iload hx hb dL_isFilterRight_194 (lv_at hl 7 rfl) ?_
      refine z_sipush hx hb dL_isFilterRight_196 (by decide) ?_
      refine yc_call (va_runS (As := [.ref (ad (4, 0)), .int (zI 2), .int (zI w), .int (zI 9973)]) (rest := []) CF (q_value l D cI cW cP ad np pp pn pg b L xs hE c_L94 G_L94 2 w 9973 (by omega) (by omega) (by omega) H.size) (va_cwS 4 hts gL_isFilterRight_L_value rfl rfl rfl (by decide +kernel) ⟨Nat.le_of_ble_eq_true rfl, Nat.le_of_ble_eq_true rfl⟩) (yc_preS hK hX hbl hbA hS hY) rfl rfl hl.1 rfl (lv_room (Nat.le_of_ble_eq_true rfl)) dL_isFilterRight_199 ⟨Nat.le_of_ble_eq_true rfl, Nat.le_of_ble_eq_true rfl⟩) hAe hS (fun v_199 c_199 G_199 H locs hp_199 hY hS => ?_)
      obtain ⟨rfl, rfl, rfl⟩ := hp_199
      refine z_eqI (b := zPy (rowAt (lin (G_31 0) mn (G_50 1) mr) (mn + mr - 1)) w (mn + mr - 1) % 9973) (by rw [hcL94_2, hgL94_2]) ?_
      refine lv_aload_n hx hb dL_isFilterRight_202 rfl (lv_at hl 0 rfl) ?_
      refine z_iconst hx hb dL_isFilterRight_203 ?_
      refine lv_iload hx hb dL_isFilterRight_204 (lv_at hl 7 rfl) ?_
      refine z_sipush hx hb dL_isFilterRight_206 (by decide) ?_
      refine yc_call (va_runS (As := [.ref (ad (4, 0)), .int (zI 0), .int (zI w), .int (zI 9973)]) (rest := [.int (zI (zPy (rowAt (lin (G_31 0) mn (G_50 1) mr) (mn + mr - 1)) w (mn + mr - 1) % 9973))]) CF (q_value l D cI cW cP ad np pp pn pg b L xs hE c_L94 G_L94 0 w 9973 (by omega) (by omega) (by omega) H.size) (va_cwS 4 hts gL_isFilterRight_L_value rfl rfl rfl (by decide +kernel) ⟨Nat.le_of_ble_eq_true rfl, Nat.le_of_ble_eq_true rfl⟩) (yc_preS hK hX hbl hbA hS hY) rfl rfl hl.1 rfl (lv_room (Nat.le_of_ble_eq_true rfl)) dL_isFilterRight_209 ⟨Nat.le_of_ble_eq_true rfl, Nat.le_of_ble_eq_true rfl⟩) hAe hS (fun v_209 c_209 G_209 H locs hp_209 hY hS => ?_)
      obtain ⟨rfl, rfl, rfl⟩ := hp_209
      refine z_eqI (b := zPy (G_31 0) w mn % 9973) (by rw [hcL94_0, hgL94_0]) ?_
      refine lv_aload_n hx hb dL_isFilterRight_212 rfl (lv_at hl 0 rfl) ?_
      refine z_iconst hx hb dL_isFilterRight_213 ?_
      refine lv_iload hx hb dL_isFilterRight_214 (lv_at hl 7 rfl) ?_
      refine z_sipush hx hb dL_isFilterRight_216 (by decide) ?_
      refine yc_call (va_runS (As := [.ref (ad (4, 0)), .int (zI 1), .int (zI w), .int (zI 9973)]) (rest := [.int (zI (zPy (G_31 0) w mn % 9973)), .int (zI (zPy (rowAt (lin (G_31 0) mn (G_50 1) mr) (mn + mr - 1)) w (mn + mr - 1) % 9973))]) CF (q_value l D cI cW cP ad np pp pn pg b L xs hE c_L94 G_L94 1 w 9973 (by omega) (by omega) (by omega) H.size) (va_cwS 4 hts gL_isFilterRight_L_value rfl rfl rfl (by decide +kernel) ⟨Nat.le_of_ble_eq_true rfl, Nat.le_of_ble_eq_true rfl⟩) (yc_preS hK hX hbl hbA hS hY) rfl rfl hl.1 rfl (lv_room (Nat.le_of_ble_eq_true rfl)) dL_isFilterRight_219 ⟨Nat.le_of_ble_eq_true rfl, Nat.le_of_ble_eq_true rfl⟩) hAe hS (fun v_219 c_219 G_219 H locs hp_219 hY hS => ?_)
      obtain ⟨rfl, rfl, rfl⟩ := hp_219
      refine z_eqI (b := zPy (G_50 1) w mr % 9973) (by rw [hcL94_1, hgL94_1]) ?_
      have hqAB := z_mulb (a := zPy (G_31 0) w mn % 9973) (b := zPy (G_50 1) w mr % 9973) (A := 10000) (B := 10000) (by omega) (by omega) (by omega) (by omega)
      refine z_imul hx hb dL_isFilterRight_222 ?_
      refine z_sipush hx hb dL_isFilterRight_223 (by decide) ?_
      refine z_irem hx hb dL_isFilterRight_226 (by omega) (by omega) ?_
      have hm_226 := z_rem (a := (zPy (G_31 0) w mn % 9973) * (zPy (G_50 1) w mr % 9973)) (n := 9973) (by omega)
      refine z_icmp_ne (tgt := 234) hx hb dL_isFilterRight_227 (by decide) (by omega) (fun c_227 => absurd c_227 (by exact fun q => q (val_fil (by omega)))) (fun c_227 => ?_)
      refine z_iconst hx hb dL_isFilterRight_230 ?_
      refine lv_goto (tgt := 235) hx hb dL_isFilterRight_231 (by decide) ?_
      refine lv_istore (lv' := [(6, .int (zI 1)), (0, .ref (ad (4, 0))), (1, .ref b), (2, .int (zI tn)), (3, .int (zI x)), (4, .int (zI mn)), (5, .int (zI mr)), (7, .int (zI w))]) hx hb dL_isFilterRight_235 hl (by decide) rfl (fun ls hl => ?_)
      have hl := lv_sub hl [1, 2, 3, 4, 5, 6, 0, 7] rfl
      have hl : lv_has ls 8 [(0, .ref (ad (4, 0))), (1, .ref b), (2, .int (zI tn)), (3, .int (zI x)), (4, .int (zI mn)), (5, .int (zI mr)), (6, .int (zI 1)), (7, .int (zI w))] := hl
      refine lv_iinc (v := zI (w + 1)) (lv' := [(7, .int (zI (w + 1))), (0, .ref (ad (4, 0))), (1, .ref b), (2, .int (zI tn)), (3, .int (zI x)), (4, .int (zI mn)), (5, .int (zI mr)), (6, .int (zI 1))]) hx hb dL_isFilterRight_237 hl (k := 7) rfl (zI_add _ _) (by decide) rfl (fun ls hl => ?_)
      have hl := lv_sub hl [1, 2, 3, 4, 5, 6, 7, 0] rfl
      have hl : lv_has ls 8 [(0, .ref (ad (4, 0))), (1, .ref b), (2, .int (zI tn)), (3, .int (zI x)), (4, .int (zI mn)), (5, .int (zI mr)), (6, .int (zI 1)), (7, .int (zI (w + 1)))] := hl
      refine lv_goto (tgt := 180) hx hb dL_isFilterRight_240 (by decide) ?_
      exact ih_180 (w + 1) _ _ _ ⟨(by omega), hY, hS, hl⟩ (by show (9 - (w + 1)).toNat < (9 - w).toNat; omega)
  · refine lv_iload hx hb dL_isFilterRight_101 (lv_at hl 6 rfl) ?_
    refine z_if_eq (tgt := 168) hx hb dL_isFilterRight_103 (by decide) (by omega) (fun c_103 => absurd c_103 (by omega)) (fun c_103 => ?_)
    refine lv_aload_n hx hb dL_isFilterRight_106 rfl (lv_at hl 0 rfl) ?_
    refine z_iconst hx hb dL_isFilterRight_107 ?_
    refine z_iconst hx hb dL_isFilterRight_108 ?_
    refine z_iconst hx hb dL_isFilterRight_109 ?_
    refine lv_iload hx hb dL_isFilterRight_110 (lv_at hl 7 rfl) ?_
    refine z_iconst hx hb dL_isFilterRight_112 ?_
    refine yc_call (va_runV (As := [.int (zI 0), .int (zI 1), .int (zI 3), .int (zI bl), .int (zI 1)]) (rest := []) CF (y_filter l D cI cW cP ad np pp pn pg b L xs hE c_L94 G_L94 0 1 3 bl 1 (by omega) (by omega) (by omega) (by omega) (by omega) (by omega) (by omega) (by exact fun k => by rw [hgL94_0]; exact hg_31 k) (by exact fun k => by rw [hgL94_1]; exact hg_50 k) (by omega) (by omega) (by omega) H.size) (cwV 5 hts gL_isFilterRight_X5_filter rfl rfl rfl (by decide +kernel) ⟨Nat.le_of_ble_eq_true rfl, Nat.le_of_ble_eq_true rfl⟩) (yc_preV hK hX hbl hbA hS hY) rfl rfl hl.1 rfl (lv_room (Nat.le_of_ble_eq_true rfl)) dL_isFilterRight_113 ⟨Nat.le_of_ble_eq_true rfl, Nat.le_of_ble_eq_true rfl⟩) hAe hS (fun v_113 c_113 G_113 H locs hp_113 hY hS => ?_)
    obtain ⟨rfl, hn_113, hg_113, ho_113⟩ := hp_113
    replace hn_113 : c_113 3 = mn + mr - 1 := hn_113.trans (by rw [hcL94_0, hcL94_1])
    replace hg_113 : G_113 3 = rowAt (lin (G_31 0) mn (G_50 1) mr) (mn + mr - 1) := hg_113.trans (by rw [hcL94_0, hgL94_0, hcL94_1, hgL94_1])
    have hc0_113 : c_113 0 = mn := (ho_113 0 (by decide)).1.trans hcL94_0
    have hg0_113 : G_113 0 = G_31 0 := (ho_113 0 (by decide)).2.trans hgL94_0
    have hc1_113 : c_113 1 = mr := (ho_113 1 (by decide)).1.trans hcL94_1
    have hg1_113 : G_113 1 = G_50 1 := (ho_113 1 (by decide)).2.trans hgL94_1
    have hc2_113 : c_113 2 = mn + mr - 1 := (ho_113 2 (by decide)).1.trans hcL94_2
    have hg2_113 : G_113 2 = rowAt (lin (G_31 0) mn (G_50 1) mr) (mn + mr - 1) := (ho_113 2 (by decide)).2.trans hgL94_2
    refine z_eqI (b := mn + mr - 1) (by rw [hcL94_0, hcL94_1]) ?_
    clear hcL94_0 hgL94_0 hcL94_1 hgL94_1 hcL94_2 hgL94_2
    refine lv_iload hx hb dL_isFilterRight_116 (lv_at hl 4 rfl) ?_
    refine lv_iload hx hb dL_isFilterRight_118 (lv_at hl 5 rfl) ?_
    refine z_iadd hx hb dL_isFilterRight_120 ?_
    refine z_iconst hx hb dL_isFilterRight_121 ?_
    refine z_isub hx hb dL_isFilterRight_122 ?_
    refine z_icmp_ne (tgt := 168) hx hb dL_isFilterRight_123 (by decide) (by omega) (fun c_123 => absurd c_123 (by omega)) (fun c_123 => ?_)
    refine lv_aload_n hx hb dL_isFilterRight_126 rfl (lv_at hl 0 rfl) ?_
    refine z_iconst hx hb dL_isFilterRight_127 ?_
    refine z_iconst hx hb dL_isFilterRight_128 ?_
    refine yc_call (va_runS (As := [.ref (ad (4, 0)), .int (zI 2), .int (zI 3)]) (rest := []) CF (q_areAlike l D cI cW cP ad np pp pn pg b L xs hE c_113 G_113 2 3 (by omega) (by omega) (by rw [hc2_113, hn_113]) (by exact fun k h1 h2 => by rw [hg2_113, hg_113]) H.size) (va_cwS 3 hts gL_isFilterRight_L_areAlike rfl rfl rfl (by decide +kernel) ⟨Nat.le_of_ble_eq_true rfl, Nat.le_of_ble_eq_true rfl⟩) (yc_preS hK hX hbl hbA hS hY) rfl rfl hl.1 rfl (lv_room (Nat.le_of_ble_eq_true rfl)) dL_isFilterRight_129 ⟨Nat.le_of_ble_eq_true rfl, Nat.le_of_ble_eq_true rfl⟩) hAe hS (fun v_129 c_129 G_129 H locs hp_129 hY hS => ?_)
    obtain ⟨rfl, rfl, rfl⟩ := hp_129
    refine z_if_eq (tgt := 168) hx hb dL_isFilterRight_132 (by decide) (by omega) (fun c_132 => absurd c_132 (by omega)) (fun c_132 => ?_)
    refine lv_aload_n hx hb dL_isFilterRight_135 rfl (lv_at hl 0 rfl) ?_
    refine z_iconst hx hb dL_isFilterRight_136 ?_
    refine z_iconst hx hb dL_isFilterRight_137 ?_
    refine z_iconst hx hb dL_isFilterRight_138 ?_
    refine lv_iload hx hb dL_isFilterRight_139 (lv_at hl 7 rfl) ?_
    refine z_iconst hx hb dL_isFilterRight_141 ?_
    refine yc_call (va_runV (As := [.int (zI 1), .int (zI 0), .int (zI 3), .int (zI bl), .int (zI 0)]) (rest := []) CF (y_filter l D cI cW cP ad np pp pn pg b L xs hE c_113 G_113 1 0 3 bl 0 (by omega) (by omega) (by omega) (by omega) (by omega) (by omega) (by omega) (by exact fun k => by rw [hg1_113]; exact hg_50 k) (by exact fun k => by rw [hg0_113]; exact hg_31 k) (by omega) (by omega) (by omega) H.size) (cwV 5 hts gL_isFilterRight_X5_filter rfl rfl rfl (by decide +kernel) ⟨Nat.le_of_ble_eq_true rfl, Nat.le_of_ble_eq_true rfl⟩) (yc_preV hK hX hbl hbA hS hY) rfl rfl hl.1 rfl (lv_room (Nat.le_of_ble_eq_true rfl)) dL_isFilterRight_142 ⟨Nat.le_of_ble_eq_true rfl, Nat.le_of_ble_eq_true rfl⟩) hAe hS (fun v_142 c_142 G_142 H locs hp_142 hY hS => ?_)
    obtain ⟨rfl, hn_142, hg_142, ho_142⟩ := hp_142
    replace hn_142 : c_142 3 = mr + mn - 1 := hn_142.trans (by rw [hc0_113, hc1_113])
    replace hg_142 : G_142 3 = rowAt (lin (G_50 1) mr (G_31 0) mn) (mr + mn - 1) := hg_142.trans (by rw [hc0_113, hg0_113, hc1_113, hg1_113])
    have hc0_142 : c_142 0 = mn := (ho_142 0 (by decide)).1.trans hc0_113
    have hg0_142 : G_142 0 = G_31 0 := (ho_142 0 (by decide)).2.trans hg0_113
    have hc1_142 : c_142 1 = mr := (ho_142 1 (by decide)).1.trans hc1_113
    have hg1_142 : G_142 1 = G_50 1 := (ho_142 1 (by decide)).2.trans hg1_113
    have hc2_142 : c_142 2 = mn + mr - 1 := (ho_142 2 (by decide)).1.trans hc2_113
    have hg2_142 : G_142 2 = rowAt (lin (G_31 0) mn (G_50 1) mr) (mn + mr - 1) := (ho_142 2 (by decide)).2.trans hg2_113
    refine z_eqI (b := mr + mn - 1) (by rw [hc0_113, hc1_113]) ?_
    clear hn_113 hg_113 hc0_113 hg0_113 hc1_113 hg1_113 hc2_113 hg2_113 ho_113
    refine lv_iload hx hb dL_isFilterRight_145 (lv_at hl 4 rfl) ?_
    refine lv_iload hx hb dL_isFilterRight_147 (lv_at hl 5 rfl) ?_
    refine z_iadd hx hb dL_isFilterRight_149 ?_
    refine z_iconst hx hb dL_isFilterRight_150 ?_
    refine z_isub hx hb dL_isFilterRight_151 ?_
    refine z_icmp_ne (tgt := 168) hx hb dL_isFilterRight_152 (by decide) (by omega) (fun c_152 => absurd c_152 (by omega)) (fun c_152 => ?_)
    refine lv_aload_n hx hb dL_isFilterRight_155 rfl (lv_at hl 0 rfl) ?_
    refine z_iconst hx hb dL_isFilterRight_156 ?_
    refine z_iconst hx hb dL_isFilterRight_157 ?_
    refine yc_call (va_runS (As := [.ref (ad (4, 0)), .int (zI 2), .int (zI 3)]) (rest := []) CF (q_areAlike l D cI cW cP ad np pp pn pg b L xs hE c_142 G_142 2 3 (by omega) (by omega) (by rw [hc2_142, hn_142, Int.add_comm mr mn]) (by exact fun k h1 h2 => by rw [hg2_142, hg_142, lin_com (g := G_50 1) (c := mr) (by omega) (by omega), Int.add_comm mr mn]) H.size) (va_cwS 3 hts gL_isFilterRight_L_areAlike rfl rfl rfl (by decide +kernel) ⟨Nat.le_of_ble_eq_true rfl, Nat.le_of_ble_eq_true rfl⟩) (yc_preS hK hX hbl hbA hS hY) rfl rfl hl.1 rfl (lv_room (Nat.le_of_ble_eq_true rfl)) dL_isFilterRight_158 ⟨Nat.le_of_ble_eq_true rfl, Nat.le_of_ble_eq_true rfl⟩) hAe hS (fun v_158 c_158 G_158 H locs hp_158 hY hS => ?_)
    obtain ⟨rfl, rfl, rfl⟩ := hp_158
    refine z_if_eq (tgt := 168) hx hb dL_isFilterRight_161 (by decide) (by omega) (fun c_161 => absurd c_161 (by omega)) (fun c_161 => ?_)
    refine z_iconst hx hb dL_isFilterRight_164 ?_
    refine lv_goto (tgt := 169) hx hb dL_isFilterRight_165 (by decide) ?_
    refine lv_istore (lv' := [(6, .int (zI 1)), (0, .ref (ad (4, 0))), (1, .ref b), (2, .int (zI tn)), (3, .int (zI x)), (4, .int (zI mn)), (5, .int (zI mr)), (7, .int (zI bl))]) hx hb dL_isFilterRight_169 hl (by decide) rfl (fun ls hl => ?_)
    have hl := lv_sub hl [1, 2, 3, 4, 5, 6, 0, 7] rfl
    have hl : lv_has ls 8 [(0, .ref (ad (4, 0))), (1, .ref b), (2, .int (zI tn)), (3, .int (zI x)), (4, .int (zI mn)), (5, .int (zI mr)), (6, .int (zI 1)), (7, .int (zI bl))] := hl
    refine lv_iinc (v := zI (bl + 5)) (lv' := [(7, .int (zI (bl + 5))), (0, .ref (ad (4, 0))), (1, .ref b), (2, .int (zI tn)), (3, .int (zI x)), (4, .int (zI mn)), (5, .int (zI mr)), (6, .int (zI 1))]) hx hb dL_isFilterRight_171 hl (k := 7) rfl (zI_add _ _) (by decide) rfl (fun ls hl => ?_)
    have hl := lv_sub hl [1, 2, 3, 4, 5, 6, 7, 0] rfl
    have hl : lv_has ls 8 [(0, .ref (ad (4, 0))), (1, .ref b), (2, .int (zI tn)), (3, .int (zI x)), (4, .int (zI mn)), (5, .int (zI mr)), (6, .int (zI 1)), (7, .int (zI (bl + 5)))] := hl
    refine lv_goto (tgt := 94) hx hb dL_isFilterRight_174 (by decide) ?_
    exact ih_94 (bl + 5, c_142, G_142) _ _ _ ⟨(by omega), (by exact hc0_142), (by exact hg0_142), (by exact hc1_142), (by exact hg1_142), (by exact hc2_142), (by exact hg2_142), hY, hS, hl⟩ (by show (33 - (bl + 5)).toNat < (33 - bl).toNat; omega)
end Q1
