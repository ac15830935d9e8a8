section HP
variable (l : Launch) (D : va_G) (cI cW cP : ClassId) (ad : zk → Nat) (np : Int) (pp pn : Int → Int) (pg : Int → Option Nat) (b L : Nat) (xs : Nat → Int32)
set_option maxHeartbeats 4000000 in
set_option maxRecDepth 100000 in
theorem q_drawn (hE : yE ad np b L) (c : Int → Int) (G : Int → Int → Int) (pl : Int) (ch : Int) (hpl : 0 ≤ pl ∧ pl ≤ 1000) (hch : 1 ≤ ch ∧ ch ≤ 100000) : yC l yL_drawn wsL_drawn ({ frames := 0, cells := 0, slots := 0, locals := 0 } : Room) D cI cW cP ad np pp pn pg b L xs c G [.ref b, .int (zI pl), .int (zI ch)] (fun v c' G' => (0 ≤ v ∧ v < ch) ∧ c = c' ∧ G = G') := by
  refine yc_start (cc := cL_drawn) (maxL := 4) (ret := (some .int)) (own := RL) hE rfl rfl (by decide) rfl rfl (Nat.le_of_ble_eq_true rfl) [(0, .ref b), (1, .int (zI pl)), (2, .int (zI ch))] rfl ?_
  intro p_ e_ s m_ below meth cd A H ls hx hb hr hml hts hown hlocks hK hAe hX hbl hbA hY hS hl
  have CF : CallFix p_ m_ cd cL_drawn 4 s ([.ref b, .int (zI pl), .int (zI ch)] : List Value).toArray wsL_drawn RL := ⟨hx, hb, hml, hown, hts⟩
  have hL := hE.2.2
  refine lv_iload_n hx hb dL_drawn_0 rfl (lv_at hl 1 rfl) ?_
  refine lv_aload_n hx hb dL_drawn_1 rfl (lv_at hl 0 rfl) ?_
  refine z_slen hx hb hX hbl hbA hS dL_drawn_2 ?_
  refine z_icmp_ge (tgt := 12) hx hb dL_drawn_3 (by decide) (by omega) (fun c_3 => ?_) (fun c_3 => ?_)
  · refine lv_ldc hx hb hown (hts (.constant RL 7 (55117)) (by decide +kernel)) dL_drawn_12 ?_
    rw [show (55117 : Int32) = zI 55117 from by decide +kernel]
    refine lv_iload_n hx hb dL_drawn_14 rfl (lv_at hl 1 rfl) ?_
    refine z_imul hx hb dL_drawn_15 ?_
    refine z_sipush hx hb dL_drawn_16 (by decide) ?_
    refine z_iadd hx hb dL_drawn_19 ?_
    refine lv_istore_n (lv' := [(3, .int (zI ((55117 * pl) + 13007))), (0, .ref b), (1, .int (zI pl)), (2, .int (zI ch))]) hx hb dL_drawn_20 rfl hl (by decide) rfl (fun ls hl => ?_)
    have hl := lv_sub hl [1, 2, 3, 0] rfl
    have hl : lv_has ls 4 [(0, .ref b), (1, .int (zI pl)), (2, .int (zI ch)), (3, .int (zI ((55117 * pl) + 13007)))] := hl
    refine lv_iload_n hx hb dL_drawn_21 rfl (lv_at hl 3 rfl) ?_
    refine z_iconst hx hb dL_drawn_22 ?_
    refine z_iushr1 hx hb dL_drawn_23 (fun r_23 hr_23 => ?_)
    refine lv_iload_n hx hb dL_drawn_24 rfl (lv_at hl 2 rfl) ?_
    refine z_irem hx hb dL_drawn_25 (by omega) (by omega) ?_
    have hm_25 := z_rem (a := r_23) (n := ch) (by omega)
    exact y_iret hx hb hr hlocks (r_23 % ch) (rfl) (by exact ⟨hm_25, rfl, rfl⟩) hY hAe hS dL_drawn_26
  · refine lv_aload_n hx hb dL_drawn_6 rfl (lv_at hl 0 rfl) ?_
    refine lv_iload_n hx hb dL_drawn_7 rfl (lv_at hl 1 rfl) ?_
    refine z_sld hx hb hX hbl hbA hS (pl).toNat (by omega) (by omega) (by omega) dL_drawn_8 ?_
    refine lv_goto (tgt := 20) hx hb dL_drawn_9 (by decide) ?_
    refine lv_istore_n (lv' := [(3, .int (zI ((xs (pl).toNat).toInt))), (0, .ref b), (1, .int (zI pl)), (2, .int (zI ch))]) hx hb dL_drawn_20 rfl hl (by decide) rfl (fun ls hl => ?_)
    have hl := lv_sub hl [1, 2, 3, 0] rfl
    have hl : lv_has ls 4 [(0, .ref b), (1, .int (zI pl)), (2, .int (zI ch)), (3, .int (zI ((xs (pl).toNat).toInt)))] := hl
    refine lv_iload_n hx hb dL_drawn_21 rfl (lv_at hl 3 rfl) ?_
    refine z_iconst hx hb dL_drawn_22 ?_
    refine z_iushr1 hx hb dL_drawn_23 (fun r_23 hr_23 => ?_)
    refine lv_iload_n hx hb dL_drawn_24 rfl (lv_at hl 2 rfl) ?_
    refine z_irem hx hb dL_drawn_25 (by omega) (by omega) ?_
    have hm_25 := z_rem (a := r_23) (n := ch) (by omega)
    exact y_iret hx hb hr hlocks (r_23 % ch) (rfl) (by exact ⟨hm_25, rfl, rfl⟩) hY hAe hS dL_drawn_26

set_option maxHeartbeats 4000000 in
set_option maxRecDepth 100000 in
theorem q_value (hE : yE ad np b L) (c : Int → Int) (G : Int → Int → Int) (ro : Int) (x : Int) (m : Int) (hro : 0 ≤ ro ∧ ro < 4) (hx_ : 0 ≤ x ∧ x ≤ 10) (hm : 1 ≤ m ∧ m ≤ 10000) : yC l yL_value wsL_value ({ frames := 2, cells := 0, slots := 0, locals := 44 } : Room) D cI cW cP ad np pp pn pg b L xs c G [.ref (ad (4, 0)), .int (zI ro), .int (zI x), .int (zI m)] (fun v c' G' => zPy (G ro) x (c ro) % m = v ∧ c = c' ∧ G = G') := by
  refine yc_start (cc := cL_value) (maxL := 6) (ret := (some .int)) (own := RL) hE rfl rfl (by decide) rfl rfl (Nat.le_of_ble_eq_true rfl) [(0, .ref (ad (4, 0))), (1, .int (zI ro)), (2, .int (zI x)), (3, .int (zI m))] rfl ?_
  intro p_ e_ s m_ below meth cd A H ls hx hb hr hml hts hown hlocks hK hAe hX hbl hbA hY hS hl
  have CF : CallFix p_ m_ cd cL_value 6 s ([.ref (ad (4, 0)), .int (zI ro), .int (zI x), .int (zI m)] : List Value).toArray wsL_value RL := ⟨hx, hb, hml, hown, hts⟩
  have hcr := yS_c hY hro
  refine z_iconst hx hb dL_value_0 ?_
  refine lv_istore (lv' := [(4, .int (zI 0)), (0, .ref (ad (4, 0))), (1, .int (zI ro)), (2, .int (zI x)), (3, .int (zI m))]) hx hb dL_value_1 hl (by decide) rfl (fun ls hl => ?_)
  have hl := lv_sub hl [1, 2, 3, 4, 0] rfl
  have hl : lv_has ls 6 [(0, .ref (ad (4, 0))), (1, .int (zI ro)), (2, .int (zI x)), (3, .int (zI m)), (4, .int (zI 0))] := hl
  refine lv_aload_n hx hb dL_value_3 rfl (lv_at hl 0 rfl) ?_
  refine lv_iload_n hx hb dL_value_4 rfl (lv_at hl 1 rfl) ?_
  refine yc_call (va_runV (As := [.int (zI ro)]) (rest := []) CF (y_length l D cI cW cP ad np pp pn pg b L xs hE c G ro (by exact hro) H.size) (cwV 1 hts gL_value_X5_length rfl rfl rfl (by decide +kernel) ⟨Nat.le_of_ble_eq_true rfl, Nat.le_of_ble_eq_true rfl⟩) (yc_preV hK hX hbl hbA hS hY) rfl rfl hl.1 rfl (lv_room (Nat.le_of_ble_eq_true rfl)) dL_value_5 ⟨Nat.le_of_ble_eq_true rfl, Nat.le_of_ble_eq_true rfl⟩) hAe hS (fun v_5 c_5 G_5 H locs hp_5 hY hS => ?_)
  obtain ⟨rfl, rfl, rfl⟩ := hp_5
  refine z_iconst hx hb dL_value_8 ?_
  refine z_isub hx hb dL_value_9 ?_
  refine lv_istore (lv' := [(5, .int (zI ((c ro) - 1))), (0, .ref (ad (4, 0))), (1, .int (zI ro)), (2, .int (zI x)), (3, .int (zI m)), (4, .int (zI 0))]) hx hb dL_value_10 hl (by decide) rfl (fun ls hl => ?_)
  have hl := lv_sub hl [1, 2, 3, 4, 5, 0] rfl
  have hl : lv_has ls 6 [(0, .ref (ad (4, 0))), (1, .int (zI ro)), (2, .int (zI x)), (3, .int (zI m)), (4, .int (zI 0)), (5, .int (zI ((c ro) - 1)))] := hl
  refine z_loop (σ := Int × Int) (fun (i, v) => (i + 1).toNat) (fun (i, v) H locs ls => (-1 ≤ i ∧ i < c ro) ∧ (v = zHo (G ro) x (c ro) m (i + 1)) ∧ (yS D cI cW cP ad np pp pn pg c G H) ∧ (va_S A s.heap H locs) ∧ (lv_has ls 6 [(0, .ref (ad (4, 0))), (1, .int (zI ro)), (2, .int (zI x)), (3, .int (zI m)), (4, .int (zI v)), (5, .int (zI i))])) ((c ro) - 1, 0) ⟨(by omega), (by rw [show c ro - 1 + 1 = c ro by omega, zHo_top]), hY, hS, hl⟩ ?_
  intro ⟨i, v⟩ H locs ls hI ih_12
  obtain ⟨hi_, hv, hY, hS, hl⟩ := hI
  have hvr := zHo_rng (g := G ro) (a := x) (n := c ro) (m := m) (i := i + 1) (by omega)
  rw [← hv] at hvr
  refine lv_iload hx hb dL_value_12 (lv_at hl 5 rfl) ?_
  refine z_if_lt (tgt := 43) hx hb dL_value_14 (by decide) (by omega) (fun c_14 => ?_) (fun c_14 => ?_)
  · refine lv_iload hx hb dL_value_43 (lv_at hl 4 rfl) ?_
    exact y_iret hx hb hr hlocks v (rfl) (by exact ⟨by rw [hv, show i + 1 = 0 by omega, zHo_end], rfl, rfl⟩) hY hAe hS dL_value_45
  · refine lv_iload hx hb dL_value_17 (lv_at hl 4 rfl) ?_
    refine lv_iload_n hx hb dL_value_19 rfl (lv_at hl 2 rfl) ?_
    refine z_imul hx hb dL_value_20 ?_
    refine lv_aload_n hx hb dL_value_21 rfl (lv_at hl 0 rfl) ?_
    refine lv_iload_n hx hb dL_value_22 rfl (lv_at hl 1 rfl) ?_
    refine lv_iload hx hb dL_value_23 (lv_at hl 5 rfl) ?_
    refine yc_call (va_runV (As := [.int (zI ro), .int (zI i)]) (rest := [.int (zI (v * x))]) CF (y_at l D cI cW cP ad np pp pn pg b L xs hE c G ro i (by exact hro) (by omega) H.size) (cwV 2 hts gL_value_X5_at rfl rfl rfl (by decide +kernel) ⟨Nat.le_of_ble_eq_true rfl, Nat.le_of_ble_eq_true rfl⟩) (yc_preV hK hX hbl hbA hS hY) rfl rfl hl.1 rfl (lv_room (Nat.le_of_ble_eq_true rfl)) dL_value_25 ⟨Nat.le_of_ble_eq_true rfl, Nat.le_of_ble_eq_true rfl⟩) hAe hS (fun v_25 c_25 G_25 H locs hp_25 hY hS => ?_)
    obtain ⟨rfl, rfl, rfl⟩ := hp_25
    have hvb := z_mulb (a := v) (b := x) (A := 10000) (B := 10) (by omega) (by omega) (by omega) (by omega)
    have hg := yS_g hY (r := ro) (k := i) hro
    refine z_iadd hx hb dL_value_28 ?_
    refine lv_iload_n hx hb dL_value_29 rfl (lv_at hl 3 rfl) ?_
    refine z_iremt hx hb dL_value_30 (by omega) (by omega) ?_
    refine lv_iload_n hx hb dL_value_31 rfl (lv_at hl 3 rfl) ?_
    refine z_iadd hx hb dL_value_32 ?_
    refine lv_iload_n hx hb dL_value_33 rfl (lv_at hl 3 rfl) ?_
    have htm := z_tm (x := v * x + G ro i) (m := m) (by omega)
    refine z_irem hx hb dL_value_34 (by omega) (by omega) ?_
    have hm_34 := z_rem (a := (Int.tmod ((v * x) + (G ro i)) m) + m) (n := m) (by omega)
    refine lv_istore (lv' := [(4, .int (zI (((Int.tmod ((v * x) + (G ro i)) m) + m) % m))), (0, .ref (ad (4, 0))), (1, .int (zI ro)), (2, .int (zI x)), (3, .int (zI m)), (5, .int (zI i))]) hx hb dL_value_35 hl (by decide) rfl (fun ls hl => ?_)
    have hl := lv_sub hl [1, 2, 3, 4, 0, 5] rfl
    have hl : lv_has ls 6 [(0, .ref (ad (4, 0))), (1, .int (zI ro)), (2, .int (zI x)), (3, .int (zI m)), (4, .int (zI (((Int.tmod ((v * x) + (G ro i)) m) + m) % m))), (5, .int (zI i))] := hl
    refine lv_iinc (v := zI (i + (-1))) (lv' := [(5, .int (zI (i + (-1)))), (0, .ref (ad (4, 0))), (1, .int (zI ro)), (2, .int (zI x)), (3, .int (zI m)), (4, .int (zI (((Int.tmod ((v * x) + (G ro i)) m) + m) % m)))]) hx hb dL_value_37 hl (k := 5) rfl (zI_add _ _) (by decide) rfl (fun ls hl => ?_)
    have hl := lv_sub hl [1, 2, 3, 4, 5, 0] rfl
    have hl : lv_has ls 6 [(0, .ref (ad (4, 0))), (1, .int (zI ro)), (2, .int (zI x)), (3, .int (zI m)), (4, .int (zI (((Int.tmod ((v * x) + (G ro i)) m) + m) % m))), (5, .int (zI (i + (-1))))] := hl
    refine lv_goto (tgt := 12) hx hb dL_value_40 (by decide) ?_
    exact ih_12 (i + (-1), ((Int.tmod ((v * x) + (G ro i)) m) + m) % m) _ _ _ ⟨(by omega), (by rw [show i + -1 + 1 = i by omega, ← zHo_step (by omega) (by omega), ← hv]), hY, hS, hl⟩ (by show ((i + (-1)) + 1).toNat < (i + 1).toNat; omega)

set_option maxHeartbeats 4000000 in
set_option maxRecDepth 100000 in
theorem q_areAlike (hE : yE ad np b L) (c : Int → Int) (G : Int → Int → Int) (ro : Int) (rp : Int) (hro : 0 ≤ ro ∧ ro < 4) (hrp : 0 ≤ rp ∧ rp < 4) (hlen : c ro = c rp) (heq : ∀ k, 0 ≤ k → k < c ro → G ro k = G rp k) : yC l yL_areAlike wsL_areAlike ({ frames := 2, cells := 0, slots := 0, locals := 44 } : Room) D cI cW cP ad np pp pn pg b L xs c G [.ref (ad (4, 0)), .int (zI ro), .int (zI rp)] (fun v c' G' => 1 = v ∧ c = c' ∧ G = G') := by
  refine yc_start (cc := cL_areAlike) (maxL := 5) (ret := (some .boolean)) (own := RL) hE rfl rfl (by decide) rfl rfl (Nat.le_of_ble_eq_true rfl) [(0, .ref (ad (4, 0))), (1, .int (zI ro)), (2, .int (zI rp))] rfl ?_
  intro p_ e_ s m_ below meth cd A H ls hx hb hr hml hts hown hlocks hK hAe hX hbl hbA hY hS hl
  have CF : CallFix p_ m_ cd cL_areAlike 5 s ([.ref (ad (4, 0)), .int (zI ro), .int (zI rp)] : List Value).toArray wsL_areAlike RL := ⟨hx, hb, hml, hown, hts⟩
  have hcr := yS_c hY hro
  refine lv_aload_n hx hb dL_areAlike_0 rfl (lv_at hl 0 rfl) ?_
  refine lv_iload_n hx hb dL_areAlike_1 rfl (lv_at hl 1 rfl) ?_
  refine yc_call (va_runV (As := [.int (zI ro)]) (rest := []) CF (y_length l D cI cW cP ad np pp pn pg b L xs hE c G ro (by exact hro) H.size) (cwV 1 hts gL_areAlike_X5_length rfl rfl rfl (by decide +kernel) ⟨Nat.le_of_ble_eq_true rfl, Nat.le_of_ble_eq_true rfl⟩) (yc_preV hK hX hbl hbA hS hY) rfl rfl hl.1 rfl (lv_room (Nat.le_of_ble_eq_true rfl)) dL_areAlike_2 ⟨Nat.le_of_ble_eq_true rfl, Nat.le_of_ble_eq_true rfl⟩) hAe hS (fun v_2 c_2 G_2 H locs hp_2 hY hS => ?_)
  obtain ⟨rfl, rfl, rfl⟩ := hp_2
  refine lv_aload_n hx hb dL_areAlike_5 rfl (lv_at hl 0 rfl) ?_
  refine lv_iload_n hx hb dL_areAlike_6 rfl (lv_at hl 2 rfl) ?_
  refine yc_call (va_runV (As := [.int (zI rp)]) (rest := [.int (zI (c ro))]) CF (y_length l D cI cW cP ad np pp pn pg b L xs hE c G rp (by exact hrp) H.size) (cwV 1 hts gL_areAlike_X5_length rfl rfl rfl (by decide +kernel) ⟨Nat.le_of_ble_eq_true rfl, Nat.le_of_ble_eq_true rfl⟩) (yc_preV hK hX hbl hbA hS hY) rfl rfl hl.1 rfl (lv_room (Nat.le_of_ble_eq_true rfl)) dL_areAlike_7 ⟨Nat.le_of_ble_eq_true rfl, Nat.le_of_ble_eq_true rfl⟩) hAe hS (fun v_7 c_7 G_7 H locs hp_7 hY hS => ?_)
  obtain ⟨rfl, rfl, rfl⟩ := hp_7
  refine z_icmp_ne (tgt := 17) hx hb dL_areAlike_10 (by decide) (by omega) (fun c_10 => absurd c_10 (by omega)) (fun c_10 => ?_)
  refine z_iconst hx hb dL_areAlike_13 ?_
  refine lv_goto (tgt := 18) hx hb dL_areAlike_14 (by decide) ?_
  refine lv_istore_n (lv' := [(3, .int (zI 1)), (0, .ref (ad (4, 0))), (1, .int (zI ro)), (2, .int (zI rp))]) hx hb dL_areAlike_18 rfl hl (by decide) rfl (fun ls hl => ?_)
  have hl := lv_sub hl [1, 2, 3, 0] rfl
  have hl : lv_has ls 5 [(0, .ref (ad (4, 0))), (1, .int (zI ro)), (2, .int (zI rp)), (3, .int (zI 1))] := hl
  refine z_iconst hx hb dL_areAlike_19 ?_
  refine lv_istore (lv' := [(4, .int (zI 0)), (0, .ref (ad (4, 0))), (1, .int (zI ro)), (2, .int (zI rp)), (3, .int (zI 1))]) hx hb dL_areAlike_20 hl (by decide) rfl (fun ls hl => ?_)
  have hl := lv_sub hl [1, 2, 3, 4, 0] rfl
  have hl : lv_has ls 5 [(0, .ref (ad (4, 0))), (1, .int (zI ro)), (2, .int (zI rp)), (3, .int (zI 1)), (4, .int (zI 0))] := hl
  refine z_loop (σ := Int) (fun i => (c ro - i).toNat) (fun i H locs ls => (0 ≤ i ∧ i ≤ c ro) ∧ (yS D cI cW cP ad np pp pn pg c G H) ∧ (va_S A s.heap H locs) ∧ (lv_has ls 5 [(0, .ref (ad (4, 0))), (1, .int (zI ro)), (2, .int (zI rp)), (3, .int (zI 1)), (4, .int (zI i))])) 0 ⟨(by omega), hY, hS, hl⟩ ?_
  intro i H locs ls hI ih_22
  obtain ⟨hi_, hY, hS, hl⟩ := hI
  refine lv_iload hx hb dL_areAlike_22 (lv_at hl 4 rfl) ?_
  refine lv_aload_n hx hb dL_areAlike_24 rfl (lv_at hl 0 rfl) ?_
  refine lv_iload_n hx hb dL_areAlike_25 rfl (lv_at hl 1 rfl) ?_
  refine yc_call (va_runV (As := [.int (zI ro)]) (rest := [.int (zI i)]) CF (y_length l D cI cW cP ad np pp pn pg b L xs hE c G ro (by exact hro) H.size) (cwV 1 hts gL_areAlike_X5_length rfl rfl rfl (by decide +kernel) ⟨Nat.le_of_ble_eq_true rfl, Nat.le_of_ble_eq_true rfl⟩) (yc_preV hK hX hbl hbA hS hY) rfl rfl hl.1 rfl (lv_room (Nat.le_of_ble_eq_true rfl)) dL_areAlike_26 ⟨Nat.le_of_ble_eq_true rfl, Nat.le_of_ble_eq_true rfl⟩) hAe hS (fun v_26 c_26 G_26 H locs hp_26 hY hS => ?_)
  obtain ⟨rfl, rfl, rfl⟩ := hp_26
  refine z_icmp_ge (tgt := 65) hx hb dL_areAlike_29 (by decide) (by omega) (fun c_29 => ?_) (fun c_29 => ?_)
  · refine lv_iload_n hx hb dL_areAlike_65 rfl (lv_at hl 3 rfl) ?_
    exact y_iret hx hb hr hlocks 1 (rfl) (by exact ⟨rfl, rfl, rfl⟩) hY hAe hS dL_areAlike_66
  · refine lv_iload_n hx hb dL_areAlike_32 rfl (lv_at hl 3 rfl) ?_
    refine z_if_eq (tgt := 65) hx hb dL_areAlike_33 (by decide) (by omega) (fun c_33 => absurd c_33 (by omega)) (fun c_33 => ?_)
    refine lv_aload_n hx hb dL_areAlike_36 rfl (lv_at hl 0 rfl) ?_
    refine lv_iload_n hx hb dL_areAlike_37 rfl (lv_at hl 1 rfl) ?_
    refine lv_iload hx hb dL_areAlike_38 (lv_at hl 4 rfl) ?_
    refine yc_call (va_runV (As := [.int (zI ro), .int (zI i)]) (rest := []) CF (y_at l D cI cW cP ad np pp pn pg b L xs hE c G ro i (by exact hro) (by omega) H.size) (cwV 2 hts gL_areAlike_X5_at rfl rfl rfl (by decide +kernel) ⟨Nat.le_of_ble_eq_true rfl, Nat.le_of_ble_eq_true rfl⟩) (yc_preV hK hX hbl hbA hS hY) rfl rfl hl.1 rfl (lv_room (Nat.le_of_ble_eq_true rfl)) dL_areAlike_40 ⟨Nat.le_of_ble_eq_true rfl, Nat.le_of_ble_eq_true rfl⟩) hAe hS (fun v_40 c_40 G_40 H locs hp_40 hY hS => ?_)
    obtain ⟨rfl, rfl, rfl⟩ := hp_40
    refine lv_aload_n hx hb dL_areAlike_43 rfl (lv_at hl 0 rfl) ?_
    refine lv_iload_n hx hb dL_areAlike_44 rfl (lv_at hl 2 rfl) ?_
    refine lv_iload hx hb dL_areAlike_45 (lv_at hl 4 rfl) ?_
    refine yc_call (va_runV (As := [.int (zI rp), .int (zI i)]) (rest := [.int (zI (G ro i))]) CF (y_at l D cI cW cP ad np pp pn pg b L xs hE c G rp i (by exact hrp) (by omega) H.size) (cwV 2 hts gL_areAlike_X5_at rfl rfl rfl (by decide +kernel) ⟨Nat.le_of_ble_eq_true rfl, Nat.le_of_ble_eq_true rfl⟩) (yc_preV hK hX hbl hbA hS hY) rfl rfl hl.1 rfl (lv_room (Nat.le_of_ble_eq_true rfl)) dL_areAlike_47 ⟨Nat.le_of_ble_eq_true rfl, Nat.le_of_ble_eq_true rfl⟩) hAe hS (fun v_47 c_47 G_47 H locs hp_47 hY hS => ?_)
    obtain ⟨rfl, rfl, rfl⟩ := hp_47
    have hg1 := yS_g hY (r := ro) (k := i) hro
    have hg2 := heq i (by omega) (by omega)
    refine z_icmp_ne (tgt := 57) hx hb dL_areAlike_50 (by decide) (by omega) (fun c_50 => absurd c_50 (by omega)) (fun c_50 => ?_)
    refine z_iconst hx hb dL_areAlike_53 ?_
    refine lv_goto (tgt := 58) hx hb dL_areAlike_54 (by decide) ?_
    refine lv_istore_n (lv' := [(3, .int (zI 1)), (0, .ref (ad (4, 0))), (1, .int (zI ro)), (2, .int (zI rp)), (4, .int (zI i))]) hx hb dL_areAlike_58 rfl hl (by decide) rfl (fun ls hl => ?_)
    have hl := lv_sub hl [1, 2, 3, 0, 4] rfl
    have hl : lv_has ls 5 [(0, .ref (ad (4, 0))), (1, .int (zI ro)), (2, .int (zI rp)), (3, .int (zI 1)), (4, .int (zI i))] := hl
    refine lv_iinc (v := zI (i + 1)) (lv' := [(4, .int (zI (i + 1))), (0, .ref (ad (4, 0))), (1, .int (zI ro)), (2, .int (zI rp)), (3, .int (zI 1))]) hx hb dL_areAlike_59 hl (k := 4) rfl (zI_add _ _) (by decide) rfl (fun ls hl => ?_)
    have hl := lv_sub hl [1, 2, 3, 4, 0] rfl
    have hl : lv_has ls 5 [(0, .ref (ad (4, 0))), (1, .int (zI ro)), (2, .int (zI rp)), (3, .int (zI 1)), (4, .int (zI (i + 1)))] := hl
    refine lv_goto (tgt := 22) hx hb dL_areAlike_62 (by decide) ?_
    exact ih_22 (i + 1) _ _ _ ⟨(by omega), hY, hS, hl⟩ (by show (c ro - (i + 1)).toNat < (c ro - i).toNat; omega)

set_option maxHeartbeats 4000000 in
set_option maxRecDepth 100000 in
theorem q_isFilled (hE : yE ad np b L) (c : Int → Int) (G : Int → Int → Int) (ro : Int) (fr : Int) (mn : Int) (lw : Int) (hh : Int) (hro : 0 ≤ ro ∧ ro < 4) (hfr : 0 ≤ fr ∧ fr ≤ 500) (hmn : 0 ≤ mn ∧ mn ≤ 64) (hlh : -99 ≤ lw ∧ lw ≤ 0 ∧ 0 ≤ hh ∧ hh ≤ 99) : yC l yL_isFilled wsL_isFilled ({ frames := 2, cells := 0, slots := 0, locals := 44 } : Room) D cI cW cP ad np pp pn pg b L xs c G [.ref (ad (4, 0)), .int (zI ro), .ref b, .int (zI fr), .int (zI mn), .int (zI lw), .int (zI hh)] (fun v c' G' => 1 = v ∧ c' ro = mn ∧ (∀ k, lw ≤ G' ro k ∧ G' ro k ≤ hh) ∧ ∀ r, r ≠ ro → c' r = c r ∧ G' r = G r) := by
  refine yc_start (cc := cL_isFilled) (maxL := 9) (ret := (some .boolean)) (own := RL) hE rfl rfl (by decide) rfl rfl (Nat.le_of_ble_eq_true rfl) [(0, .ref (ad (4, 0))), (1, .int (zI ro)), (2, .ref b), (3, .int (zI fr)), (4, .int (zI mn)), (5, .int (zI lw)), (6, .int (zI hh))] rfl ?_
  intro p_ e_ s m_ below meth cd A H ls hx hb hr hml hts hown hlocks hK hAe hX hbl hbA hY hS hl
  have CF : CallFix p_ m_ cd cL_isFilled 9 s ([.ref (ad (4, 0)), .int (zI ro), .ref b, .int (zI fr), .int (zI mn), .int (zI lw), .int (zI hh)] : List Value).toArray wsL_isFilled RL := ⟨hx, hb, hml, hown, hts⟩
  have hcr := yS_c hY hro
  refine lv_aload_n hx hb dL_isFilled_0 rfl (lv_at hl 0 rfl) ?_
  refine lv_iload_n hx hb dL_isFilled_1 rfl (lv_at hl 1 rfl) ?_
  refine yc_call (va_runV (As := [.int (zI ro)]) (rest := []) CF (y_clear l D cI cW cP ad np pp pn pg b L xs hE c G ro (by exact hro) H.size) (cwV 1 hts gL_isFilled_X5_clear rfl rfl rfl (by decide +kernel) ⟨Nat.le_of_ble_eq_true rfl, Nat.le_of_ble_eq_true rfl⟩) (yc_preV hK hX hbl hbA hS hY) rfl rfl hl.1 rfl (lv_room (Nat.le_of_ble_eq_true rfl)) dL_isFilled_2 ⟨Nat.le_of_ble_eq_true rfl, Nat.le_of_ble_eq_true rfl⟩) hAe hS (fun v_2 c_2 G_2 H locs hp_2 hY hS => ?_)
  obtain ⟨rfl, hn_2, hg_2, ho_2⟩ := hp_2
  refine z_if_lt (tgt := 12) hx hb dL_isFilled_5 (by decide) (by omega) (fun c_5 => absurd c_5 (by omega)) (fun c_5 => ?_)
  refine z_iconst hx hb dL_isFilled_8 ?_
  refine lv_goto (tgt := 13) hx hb dL_isFilled_9 (by decide) ?_
  refine lv_istore (lv' := [(7, .int (zI 1)), (0, .ref (ad (4, 0))), (1, .int (zI ro)), (2, .ref b), (3, .int (zI fr)), (4, .int (zI mn)), (5, .int (zI lw)), (6, .int (zI hh))]) hx hb dL_isFilled_13 hl (by decide) rfl (fun ls hl => ?_)
  have hl := lv_sub hl [1, 2, 3, 4, 5, 6, 7, 0] rfl
  have hl : lv_has ls 9 [(0, .ref (ad (4, 0))), (1, .int (zI ro)), (2, .ref b), (3, .int (zI fr)), (4, .int (zI mn)), (5, .int (zI lw)), (6, .int (zI hh)), (7, .int (zI 1))] := hl
  refine z_iconst hx hb dL_isFilled_15 ?_
  refine lv_istore (lv' := [(8, .int (zI 0)), (0, .ref (ad (4, 0))), (1, .int (zI ro)), (2, .ref b), (3, .int (zI fr)), (4, .int (zI mn)), (5, .int (zI lw)), (6, .int (zI hh)), (7, .int (zI 1))]) hx hb dL_isFilled_16 hl (by decide) rfl (fun ls hl => ?_)
  have hl := lv_sub hl [1, 2, 3, 4, 5, 6, 7, 8, 0] rfl
  have hl : lv_has ls 9 [(0, .ref (ad (4, 0))), (1, .int (zI ro)), (2, .ref b), (3, .int (zI fr)), (4, .int (zI mn)), (5, .int (zI lw)), (6, .int (zI hh)), (7, .int (zI 1)), (8, .int (zI 0))] := hl
  refine z_loop (σ := Int × (Int → Int) × (Int → Int → Int)) (fun (k, c_L18, G_L18) => (mn - k).toNat) (fun (k, c_L18, G_L18) H locs ls => (0 ≤ k ∧ k ≤ mn) ∧ (c_L18 ro = k) ∧ (∀ j, lw ≤ G_L18 ro j ∧ G_L18 ro j ≤ hh) ∧ (∀ r, r ≠ ro → c_L18 r = c r ∧ G_L18 r = G r) ∧ (yS D cI cW cP ad np pp pn pg c_L18 G_L18 H) ∧ (va_S A s.heap H locs) ∧ (lv_has ls 9 [(0, .ref (ad (4, 0))), (1, .int (zI ro)), (2, .ref b), (3, .int (zI fr)), (4, .int (zI mn)), (5, .int (zI lw)), (6, .int (zI hh)), (7, .int (zI 1)), (8, .int (zI k))])) (0, c_2, G_2) ⟨(by omega), (by exact hn_2), (by exact fun j => by rw [hg_2 j]; omega), (by exact ho_2), hY, hS, hl⟩ ?_
  intro ⟨k, c_L18, G_L18⟩ H locs ls hI ih_18
  obtain ⟨hk_, hck, hgk, hok, hY, hS, hl⟩ := hI
  refine lv_iload hx hb dL_isFilled_18 (lv_at hl 8 rfl) ?_
  refine lv_iload hx hb dL_isFilled_20 (lv_at hl 4 rfl) ?_
  refine z_icmp_ge (tgt := 73) hx hb dL_isFilled_22 (by decide) (by omega) (fun c_22 => ?_) (fun c_22 => ?_)
  · refine lv_iload hx hb dL_isFilled_73 (lv_at hl 7 rfl) ?_
    exact y_iret hx hb hr hlocks 1 (rfl) (by exact ⟨rfl, by omega, hgk, hok⟩) hY hAe hS dL_isFilled_75
  · refine lv_iload hx hb dL_isFilled_25 (lv_at hl 7 rfl) ?_
    refine z_if_eq (tgt := 64) hx hb dL_isFilled_27 (by decide) (by omega) (fun c_27 => absurd c_27 (by omega)) (fun c_27 => ?_)
    refine lv_aload_n hx hb dL_isFilled_30 rfl (lv_at hl 0 rfl) ?_
    refine lv_iload_n hx hb dL_isFilled_31 rfl (lv_at hl 1 rfl) ?_
    refine lv_iload hx hb dL_isFilled_32 (lv_at hl 5 rfl) ?_
    refine lv_aload_n hx hb dL_isFilled_34 rfl (lv_at hl 2 rfl) ?_
    refine lv_iload_n hx hb dL_isFilled_35 rfl (lv_at hl 3 rfl) ?_
    refine lv_iload hx hb dL_isFilled_36 (lv_at hl 8 rfl) ?_
    refine z_iadd hx hb dL_isFilled_38 ?_
    refine lv_iload hx hb dL_isFilled_39 (lv_at hl 6 rfl) ?_
    refine lv_iload hx hb dL_isFilled_41 (lv_at hl 5 rfl) ?_
    refine z_isub hx hb dL_isFilled_43 ?_
    refine z_iconst hx hb dL_isFilled_44 ?_
    refine z_iadd hx hb dL_isFilled_45 ?_
    refine yc_call (va_runS (As := [.ref b, .int (zI (fr + k)), .int (zI ((hh - lw) + 1))]) (rest := [.int (zI lw), .int (zI ro), .ref (ad (4, 0))]) CF (q_drawn l D cI cW cP ad np pp pn pg b L xs hE c_L18 G_L18 (fr + k) ((hh - lw) + 1) (by omega) (by omega) H.size) (va_cwS 3 hts gL_isFilled_L_drawn rfl rfl rfl (by decide +kernel) ⟨Nat.le_of_ble_eq_true rfl, Nat.le_of_ble_eq_true rfl⟩) (yc_preS hK hX hbl hbA hS hY) rfl rfl hl.1 rfl (lv_room (Nat.le_of_ble_eq_true rfl)) dL_isFilled_46 ⟨Nat.le_of_ble_eq_true rfl, Nat.le_of_ble_eq_true rfl⟩) hAe hS (fun v_46 c_46 G_46 H locs hp_46 hY hS => ?_)
    obtain ⟨hv0_46, rfl, rfl⟩ := hp_46
    refine z_iadd hx hb dL_isFilled_49 ?_
    refine yc_call (va_runV (As := [.int (zI ro), .int (zI (lw + v_46))]) (rest := []) CF (y_append l D cI cW cP ad np pp pn pg b L xs hE c_L18 G_L18 ro (lw + v_46) (by exact hro) (by omega) (by omega) H.size) (cwV 2 hts gL_isFilled_X5_append rfl rfl rfl (by decide +kernel) ⟨Nat.le_of_ble_eq_true rfl, Nat.le_of_ble_eq_true rfl⟩) (yc_preV hK hX hbl hbA hS hY) rfl rfl hl.1 rfl (lv_room (Nat.le_of_ble_eq_true rfl)) dL_isFilled_50 ⟨Nat.le_of_ble_eq_true rfl, Nat.le_of_ble_eq_true rfl⟩) hAe hS (fun v_50 c_50 G_50 H locs hp_50 hY hS => ?_)
    obtain ⟨rfl, hn_50, hg_50, ho_50⟩ := hp_50
    refine lv_iload hx hb dL_isFilled_53 (lv_at hl 8 rfl) ?_
    refine z_iconst hx hb dL_isFilled_55 ?_
    refine z_iadd hx hb dL_isFilled_56 ?_
    refine z_icmp_ne (tgt := 64) hx hb dL_isFilled_57 (by decide) (by omega) (fun c_57 => absurd c_57 (by omega)) (fun c_57 => ?_)
    refine z_iconst hx hb dL_isFilled_60 ?_
    refine lv_goto (tgt := 65) hx hb dL_isFilled_61 (by decide) ?_
    refine lv_istore (lv' := [(7, .int (zI 1)), (0, .ref (ad (4, 0))), (1, .int (zI ro)), (2, .ref b), (3, .int (zI fr)), (4, .int (zI mn)), (5, .int (zI lw)), (6, .int (zI hh)), (8, .int (zI k))]) hx hb dL_isFilled_65 hl (by decide) rfl (fun ls hl => ?_)
    have hl := lv_sub hl [1, 2, 3, 4, 5, 6, 7, 0, 8] rfl
    have hl : lv_has ls 9 [(0, .ref (ad (4, 0))), (1, .int (zI ro)), (2, .ref b), (3, .int (zI fr)), (4, .int (zI mn)), (5, .int (zI lw)), (6, .int (zI hh)), (7, .int (zI 1)), (8, .int (zI k))] := hl
    refine lv_iinc (v := zI (k + 1)) (lv' := [(8, .int (zI (k + 1))), (0, .ref (ad (4, 0))), (1, .int (zI ro)), (2, .ref b), (3, .int (zI fr)), (4, .int (zI mn)), (5, .int (zI lw)), (6, .int (zI hh)), (7, .int (zI 1))]) hx hb dL_isFilled_67 hl (k := 8) rfl (zI_add _ _) (by decide) rfl (fun ls hl => ?_)
    have hl := lv_sub hl [1, 2, 3, 4, 5, 6, 7, 8, 0] rfl
    have hl : lv_has ls 9 [(0, .ref (ad (4, 0))), (1, .int (zI ro)), (2, .ref b), (3, .int (zI fr)), (4, .int (zI mn)), (5, .int (zI lw)), (6, .int (zI hh)), (7, .int (zI 1)), (8, .int (zI (k + 1)))] := hl
    refine lv_goto (tgt := 18) hx hb dL_isFilled_70 (by decide) ?_
    exact ih_18 (k + 1, c_50, G_50) _ _ _ ⟨(by omega), (by omega), (by exact fun j => by rw [hg_50]; by_cases e : j = c_L18 ro; (rw [e, zU_s]; omega); (rw [zU_n _ _ e]; exact hgk j)), (by exact fun r hr_ => ⟨(ho_50 r hr_).1.trans (hok r hr_).1, (ho_50 r hr_).2.trans (hok r hr_).2⟩), hY, hS, hl⟩ (by show (mn - (k + 1)).toNat < (mn - k).toNat; omega)
end HP
