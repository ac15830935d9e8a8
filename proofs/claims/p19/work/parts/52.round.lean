section Q2
variable (l : Launch) (D : va_G) (cI cW cP : ClassId) (ad : zk → Nat) (np : Int) (pp pn : Int → Int) (pg : Int → Option Nat) (b L : Nat) (xs : Nat → Int32)
set_option maxHeartbeats 4000000 in
set_option maxRecDepth 100000 in
theorem q_isRoundRight (hE : yE ad np b L) (c : Int → Int) (G : Int → Int → Int) (i : Int) (n : Int) (p : Int) (hi : 0 ≤ i ∧ i < np) (hn_ : pn i = n) (hp_ : pp i = p) (hc0 : 1 ≤ c 0 ∧ c 0 ≤ 40) (hc1 : 1 ≤ c 1 ∧ c 1 ≤ 24) (hc2 : c 2 = c 0 + c 1 - 1) (hg2 : G 2 = rowAt (lin (G 0) (c 0) (G 1) (c 1)) (c 0 + c 1 - 1)) : yC l yL_isRoundRight wsL_isRoundRight ({ frames := 5, cells := 0, slots := 0, locals := 136 } : Room) D cI cW cP ad np pp pn pg b L xs c G [.ref (ad (4, 0)), .int (zI i), .int (zI n), .int (zI p)] (fun v c' G' => 1 = v ∧ (c' 1 = c 1) ∧ (G' 1 = G 1)) := by
  refine yc_start (cc := cL_isRoundRight) (maxL := 7) (ret := (some .boolean)) (own := RL) hE rfl rfl (by decide) rfl rfl (Nat.le_of_ble_eq_true rfl) [(0, .ref (ad (4, 0))), (1, .int (zI i)), (2, .int (zI n)), (3, .int (zI p))] rfl ?_
  intro p_ e_ s m_ below meth cd A H ls hx hb hr hml hts hown hlocks hK hAe hX hbl hbA hY hS hl
  have CF : CallFix p_ m_ cd cL_isRoundRight 7 s ([.ref (ad (4, 0)), .int (zI i), .int (zI n), .int (zI p)] : List Value).toArray wsL_isRoundRight RL := ⟨hx, hb, hml, hown, hts⟩
  have hpn := yS_p hY hi
  rw [hp_, hn_] at hpn
  have hpn1 := hpn.2.2
  have hpn9 := hpn.2.1
  have hpn3 := hpn.1.1
  have hb2 : ∀ k, -1000000 ≤ G 2 k ∧ G 2 k ≤ 1000000 := fun k => yS_g hY (by omega)
  have hz0 : ∀ j, ¬ (0 ≤ j ∧ j < c 0) → G 0 j = 0 := fun j hj => yS_0 hY hj
  have hz1 : ∀ j, ¬ (0 ≤ j ∧ j < c 1) → G 1 j = 0 := fun j hj => yS_0 hY hj
  refine lv_aload_n hx hb dL_isRoundRight_0 rfl (lv_at hl 0 rfl) ?_
  refine z_iconst hx hb dL_isRoundRight_1 ?_
  refine yc_call (va_runV (As := [.int (zI 2)]) (rest := []) CF (y_length l D cI cW cP ad np pp pn pg b L xs hE c G 2 (by omega) H.size) (cwV 1 hts gL_isRoundRight_X5_length rfl rfl rfl (by decide +kernel) ⟨Nat.le_of_ble_eq_true rfl, Nat.le_of_ble_eq_true rfl⟩) (yc_preV hK hX hbl hbA hS hY) rfl rfl hl.1 rfl (lv_room (Nat.le_of_ble_eq_true rfl)) dL_isRoundRight_2 ⟨Nat.le_of_ble_eq_true rfl, Nat.le_of_ble_eq_true rfl⟩) hAe hS (fun v_2 c_2 G_2 H locs hp_2 hY hS => ?_)
  obtain ⟨rfl, rfl, rfl⟩ := hp_2
  refine lv_iload_n hx hb dL_isRoundRight_5 rfl (lv_at hl 2 rfl) ?_
  refine z_icmp_le (tgt := 11) hx hb dL_isRoundRight_6 (by decide) (by omega) (fun c_6 => ?_) (fun c_6 => ?_)
  · refine lv_aload_n hx hb dL_isRoundRight_11 rfl (lv_at hl 0 rfl) ?_
    refine lv_iload_n hx hb dL_isRoundRight_12 rfl (lv_at hl 1 rfl) ?_
    refine z_iconst hx hb dL_isRoundRight_13 ?_
    refine z_iconst hx hb dL_isRoundRight_14 ?_
    refine z_iconst hx hb dL_isRoundRight_15 ?_
    refine yc_call (va_runV (As := [.int (zI i), .int (zI 0), .int (zI 1), .int (zI 3)]) (rest := []) CF (y_convolve l D cI cW cP ad np pp pn pg b L xs hE c G i 0 1 3 (by exact hi) (by omega) (by omega) (by omega) (by omega) (by omega) (by omega) (by omega) H.size) (cwV 4 hts gL_isRoundRight_X5_convolve rfl rfl rfl (by decide +kernel) ⟨Nat.le_of_ble_eq_true rfl, Nat.le_of_ble_eq_true rfl⟩) (yc_preV hK hX hbl hbA hS hY) rfl rfl hl.1 rfl (lv_room (Nat.le_of_ble_eq_true rfl)) dL_isRoundRight_16 ⟨Nat.le_of_ble_eq_true rfl, Nat.le_of_ble_eq_true rfl⟩) hAe hS (fun v_16 c_16 G_16 H locs hp_16 hY hS => ?_)
    obtain ⟨rfl, hn_16, hg_16, ho_16⟩ := hp_16
    replace hg_16 : G_16 3 = rowAt (fun k => cyc (pp i) (pn i) (fun j => G 0 j % pp i) (fun j => G 1 j % pp i) k) (pn i) := hg_16
    have hc0_16 : c_16 0 = c 0 := (ho_16 0 (by decide)).1
    have hg0_16 : G_16 0 = G 0 := (ho_16 0 (by decide)).2
    have hc1_16 : c_16 1 = c 1 := (ho_16 1 (by decide)).1
    have hg1_16 : G_16 1 = G 1 := (ho_16 1 (by decide)).2
    have hc2_16 : c_16 2 = c 2 := (ho_16 2 (by decide)).1
    have hg2_16 : G_16 2 = G 2 := (ho_16 2 (by decide)).2
    refine lv_iload_n hx hb dL_isRoundRight_19 rfl (lv_at hl 2 rfl) ?_
    refine z_icmp_ne (tgt := 27) hx hb dL_isRoundRight_20 (by decide) (by omega) (fun c_20 => absurd c_20 (by omega)) (fun c_20 => ?_)
    refine z_iconst hx hb dL_isRoundRight_23 ?_
    refine lv_goto (tgt := 28) hx hb dL_isRoundRight_24 (by decide) ?_
    refine lv_istore (lv' := [(4, .int (zI 1)), (0, .ref (ad (4, 0))), (1, .int (zI i)), (2, .int (zI n)), (3, .int (zI p))]) hx hb dL_isRoundRight_28 hl (by decide) rfl (fun ls hl => ?_)
    have hl := lv_sub hl [1, 2, 3, 4, 0] rfl
    have hl : lv_has ls 7 [(0, .ref (ad (4, 0))), (1, .int (zI i)), (2, .int (zI n)), (3, .int (zI p)), (4, .int (zI 1))] := hl
    refine z_iconst hx hb dL_isRoundRight_30 ?_
    refine lv_istore (lv' := [(5, .int (zI 0)), (0, .ref (ad (4, 0))), (1, .int (zI i)), (2, .int (zI n)), (3, .int (zI p)), (4, .int (zI 1))]) hx hb dL_isRoundRight_31 hl (by decide) rfl (fun ls hl => ?_)
    have hl := lv_sub hl [1, 2, 3, 4, 5, 0] rfl
    have hl : lv_has ls 7 [(0, .ref (ad (4, 0))), (1, .int (zI i)), (2, .int (zI n)), (3, .int (zI p)), (4, .int (zI 1)), (5, .int (zI 0))] := hl
    refine z_loop (σ := Int) (fun k => (n - k).toNat) (fun k H locs ls => (0 ≤ k ∧ k ≤ n) ∧ (yS D cI cW cP ad np pp pn pg c_16 G_16 H) ∧ (va_S A s.heap H locs) ∧ (lv_has ls 7 [(0, .ref (ad (4, 0))), (1, .int (zI i)), (2, .int (zI n)), (3, .int (zI p)), (4, .int (zI 1)), (5, .int (zI k))])) 0 ⟨(by omega), hY, hS, hl⟩ ?_
    intro k H locs ls hI ih_33
    obtain ⟨hk_, hY, hS, hl⟩ := hI
    refine lv_iload hx hb dL_isRoundRight_33 (lv_at hl 5 rfl) ?_
    refine lv_iload_n hx hb dL_isRoundRight_35 rfl (lv_at hl 2 rfl) ?_
    refine z_icmp_ge (tgt := 98) hx hb dL_isRoundRight_36 (by decide) (by omega) (fun c_36 => ?_) (fun c_36 => ?_)
    · refine lv_iload hx hb dL_isRoundRight_98 (lv_at hl 4 rfl) ?_
      exact y_iret hx hb hr hlocks 1 (rfl) (by exact ⟨rfl, hc1_16, hg1_16⟩) hY hAe hS dL_isRoundRight_100
    · refine lv_iload hx hb dL_isRoundRight_39 (lv_at hl 4 rfl) ?_
      refine z_if_eq (tgt := 98) hx hb dL_isRoundRight_41 (by decide) (by omega) (fun c_41 => absurd c_41 (by omega)) (fun c_41 => ?_)
      refine lv_iload hx hb dL_isRoundRight_44 (lv_at hl 5 rfl) ?_
      refine lv_aload_n hx hb dL_isRoundRight_46 rfl (lv_at hl 0 rfl) ?_
      refine z_iconst hx hb dL_isRoundRight_47 ?_
      refine yc_call (va_runV (As := [.int (zI 2)]) (rest := [.int (zI k)]) CF (y_length l D cI cW cP ad np pp pn pg b L xs hE c_16 G_16 2 (by omega) H.size) (cwV 1 hts gL_isRoundRight_X5_length rfl rfl rfl (by decide +kernel) ⟨Nat.le_of_ble_eq_true rfl, Nat.le_of_ble_eq_true rfl⟩) (yc_preV hK hX hbl hbA hS hY) rfl rfl hl.1 rfl (lv_room (Nat.le_of_ble_eq_true rfl)) dL_isRoundRight_48 ⟨Nat.le_of_ble_eq_true rfl, Nat.le_of_ble_eq_true rfl⟩) hAe hS (fun v_48 c_48 G_48 H locs hp_48 hY hS => ?_)
      obtain ⟨rfl, rfl, rfl⟩ := hp_48
      refine z_eqI (b := (c 2)) (by rw [hc2_16]) ?_
      refine z_icmp_ge (tgt := 64) hx hb dL_isRoundRight_51 (by decide) (by omega) (fun c_51 => ?_) (fun c_51 => ?_)
      · refine z_iconst hx hb dL_isRoundRight_64 ?_
        refine z_eqI (b := lin (G 0) (c 0) (G 1) (c 1) k) (by exact (lin_out (by omega)).symm) ?_
        refine lv_istore (lv' := [(6, .int (zI (lin (G 0) (c 0) (G 1) (c 1) k))), (0, .ref (ad (4, 0))), (1, .int (zI i)), (2, .int (zI n)), (3, .int (zI p)), (4, .int (zI 1)), (5, .int (zI k))]) hx hb dL_isRoundRight_65 hl (by decide) rfl (fun ls hl => ?_)
        have hl := lv_sub hl [1, 2, 3, 4, 5, 6, 0] rfl
        have hl : lv_has ls 7 [(0, .ref (ad (4, 0))), (1, .int (zI i)), (2, .int (zI n)), (3, .int (zI p)), (4, .int (zI 1)), (5, .int (zI k)), (6, .int (zI (lin (G 0) (c 0) (G 1) (c 1) k)))] := hl
        have hlk : -1000000 ≤ lin (G 0) (c 0) (G 1) (c 1) k ∧ lin (G 0) (c 0) (G 1) (c 1) k ≤ 1000000 := by
          by_cases q : k < c 2
          · have e := hb2 k
            rw [hg2, rowAt_in ⟨by omega, by omega⟩] at e
            exact e
          · rw [lin_out (by omega)]; omega
        have hlm := z_rem (a := lin (G 0) (c 0) (G 1) (c 1) k) (n := p) (by omega)
        refine lv_aload_n hx hb dL_isRoundRight_67 rfl (lv_at hl 0 rfl) ?_
        refine z_iconst hx hb dL_isRoundRight_68 ?_
        refine lv_iload hx hb dL_isRoundRight_69 (lv_at hl 5 rfl) ?_
        refine yc_call (va_runV (As := [.int (zI 3), .int (zI k)]) (rest := []) CF (y_at l D cI cW cP ad np pp pn pg b L xs hE c_16 G_16 3 k (by omega) (by omega) H.size) (cwV 2 hts gL_isRoundRight_X5_at rfl rfl rfl (by decide +kernel) ⟨Nat.le_of_ble_eq_true rfl, Nat.le_of_ble_eq_true rfl⟩) (yc_preV hK hX hbl hbA hS hY) rfl rfl hl.1 rfl (lv_room (Nat.le_of_ble_eq_true rfl)) dL_isRoundRight_71 ⟨Nat.le_of_ble_eq_true rfl, Nat.le_of_ble_eq_true rfl⟩) hAe hS (fun v_71 c_71 G_71 H locs hp_71 hY hS => ?_)
        obtain ⟨rfl, rfl, rfl⟩ := hp_71
        refine z_eqI (b := (rowAt (fun k => cyc (pp i) (pn i) (fun j => G 0 j % pp i) (fun j => G 1 j % pp i) k) (pn i)) k) (by rw [hg_16]) ?_
        refine z_eqI (b := lin (G 0) (c 0) (G 1) (c 1) k % p) (by rw [rowAt_in ⟨by omega, by omega⟩, hp_, hn_]; exact cyc_lin (by omega) (by omega) (by omega) (by omega) ⟨by omega, by omega⟩ hz0 hz1) ?_
        refine lv_iload hx hb dL_isRoundRight_74 (lv_at hl 6 rfl) ?_
        refine lv_iload_n hx hb dL_isRoundRight_76 rfl (lv_at hl 3 rfl) ?_
        refine z_iremt hx hb dL_isRoundRight_77 (by omega) (by omega) ?_
        refine lv_iload_n hx hb dL_isRoundRight_78 rfl (lv_at hl 3 rfl) ?_
        refine z_iadd hx hb dL_isRoundRight_79 ?_
        have htm := z_tm (x := lin (G 0) (c 0) (G 1) (c 1) k) (m := p) (by omega)
        refine lv_iload_n hx hb dL_isRoundRight_80 rfl (lv_at hl 3 rfl) ?_
        refine z_irem hx hb dL_isRoundRight_81 (by omega) (by omega) ?_
        have hm_81 := z_rem (a := (Int.tmod (lin (G 0) (c 0) (G 1) (c 1) k) p) + p) (n := p) (by omega)
        refine z_icmp_ne (tgt := 89) hx hb dL_isRoundRight_82 (by decide) (by omega) (fun c_82 => absurd c_82 (by exact fun q => q (z_tmm (by omega)).symm)) (fun c_82 => ?_)
        refine z_iconst hx hb dL_isRoundRight_85 ?_
        refine lv_goto (tgt := 90) hx hb dL_isRoundRight_86 (by decide) ?_
        refine lv_istore (lv' := [(4, .int (zI 1)), (0, .ref (ad (4, 0))), (1, .int (zI i)), (2, .int (zI n)), (3, .int (zI p)), (5, .int (zI k)), (6, .int (zI (lin (G 0) (c 0) (G 1) (c 1) k)))]) hx hb dL_isRoundRight_90 hl (by decide) rfl (fun ls hl => ?_)
        have hl := lv_sub hl [1, 2, 3, 4, 0, 5, 6] rfl
        have hl : lv_has ls 7 [(0, .ref (ad (4, 0))), (1, .int (zI i)), (2, .int (zI n)), (3, .int (zI p)), (4, .int (zI 1)), (5, .int (zI k)), (6, .int (zI (lin (G 0) (c 0) (G 1) (c 1) k)))] := hl
        refine lv_iinc (v := zI (k + 1)) (lv' := [(5, .int (zI (k + 1))), (0, .ref (ad (4, 0))), (1, .int (zI i)), (2, .int (zI n)), (3, .int (zI p)), (4, .int (zI 1)), (6, .int (zI (lin (G 0) (c 0) (G 1) (c 1) k)))]) hx hb dL_isRoundRight_92 hl (k := 5) rfl (zI_add _ _) (by decide) rfl (fun ls hl => ?_)
        have hl := lv_sub hl [1, 2, 3, 4, 5, 0, 6] rfl
        have hl : lv_has ls 7 [(0, .ref (ad (4, 0))), (1, .int (zI i)), (2, .int (zI n)), (3, .int (zI p)), (4, .int (zI 1)), (5, .int (zI (k + 1))), (6, .int (zI (lin (G 0) (c 0) (G 1) (c 1) k)))] := hl
        refine lv_goto (tgt := 33) hx hb dL_isRoundRight_95 (by decide) ?_
        exact ih_33 (k + 1) _ _ _ ⟨(by omega), hY, hS, lv_sub hl [0, 1, 2, 3, 4, 5] rfl⟩ (by show (n - (k + 1)).toNat < (n - k).toNat; omega)
      · refine lv_aload_n hx hb dL_isRoundRight_54 rfl (lv_at hl 0 rfl) ?_
        refine z_iconst hx hb dL_isRoundRight_55 ?_
        refine lv_iload hx hb dL_isRoundRight_56 (lv_at hl 5 rfl) ?_
        refine yc_call (va_runV (As := [.int (zI 2), .int (zI k)]) (rest := []) CF (y_at l D cI cW cP ad np pp pn pg b L xs hE c_16 G_16 2 k (by omega) (by omega) H.size) (cwV 2 hts gL_isRoundRight_X5_at rfl rfl rfl (by decide +kernel) ⟨Nat.le_of_ble_eq_true rfl, Nat.le_of_ble_eq_true rfl⟩) (yc_preV hK hX hbl hbA hS hY) rfl rfl hl.1 rfl (lv_room (Nat.le_of_ble_eq_true rfl)) dL_isRoundRight_58 ⟨Nat.le_of_ble_eq_true rfl, Nat.le_of_ble_eq_true rfl⟩) hAe hS (fun v_58 c_58 G_58 H locs hp_58 hY hS => ?_)
        obtain ⟨rfl, rfl, rfl⟩ := hp_58
        refine z_eqI (b := (G 2) k) (by rw [hg2_16]) ?_
        refine lv_goto (tgt := 65) hx hb dL_isRoundRight_61 (by decide) ?_
        refine z_eqI (b := lin (G 0) (c 0) (G 1) (c 1) k) (by rw [hg2]; exact rowAt_in ⟨by omega, by omega⟩) ?_
        refine lv_istore (lv' := [(6, .int (zI (lin (G 0) (c 0) (G 1) (c 1) k))), (0, .ref (ad (4, 0))), (1, .int (zI i)), (2, .int (zI n)), (3, .int (zI p)), (4, .int (zI 1)), (5, .int (zI k))]) hx hb dL_isRoundRight_65 hl (by decide) rfl (fun ls hl => ?_)
        have hl := lv_sub hl [1, 2, 3, 4, 5, 6, 0] rfl
        have hl : lv_has ls 7 [(0, .ref (ad (4, 0))), (1, .int (zI i)), (2, .int (zI n)), (3, .int (zI p)), (4, .int (zI 1)), (5, .int (zI k)), (6, .int (zI (lin (G 0) (c 0) (G 1) (c 1) k)))] := hl
        have hlk : -1000000 ≤ lin (G 0) (c 0) (G 1) (c 1) k ∧ lin (G 0) (c 0) (G 1) (c 1) k ≤ 1000000 := by
          by_cases q : k < c 2
          · have e := hb2 k
            rw [hg2, rowAt_in ⟨by omega, by omega⟩] at e
            exact e
          · rw [lin_out (by omega)]; omega
        have hlm := z_rem (a := lin (G 0) (c 0) (G 1) (c 1) k) (n := p) (by omega)
        refine lv_aload_n hx hb dL_isRoundRight_67 rfl (lv_at hl 0 rfl) ?_
        refine z_iconst hx hb dL_isRoundRight_68 ?_
        refine lv_iload hx hb dL_isRoundRight_69 (lv_at hl 5 rfl) ?_
        refine yc_call (va_runV (As := [.int (zI 3), .int (zI k)]) (rest := []) CF (y_at l D cI cW cP ad np pp pn pg b L xs hE c_16 G_16 3 k (by omega) (by omega) H.size) (cwV 2 hts gL_isRoundRight_X5_at rfl rfl rfl (by decide +kernel) ⟨Nat.le_of_ble_eq_true rfl, Nat.le_of_ble_eq_true rfl⟩) (yc_preV hK hX hbl hbA hS hY) rfl rfl hl.1 rfl (lv_room (Nat.le_of_ble_eq_true rfl)) dL_isRoundRight_71 ⟨Nat.le_of_ble_eq_true rfl, Nat.le_of_ble_eq_true rfl⟩) hAe hS (fun v_71 c_71 G_71 H locs hp_71 hY hS => ?_)
        obtain ⟨rfl, rfl, rfl⟩ := hp_71
        refine z_eqI (b := (rowAt (fun k => cyc (pp i) (pn i) (fun j => G 0 j % pp i) (fun j => G 1 j % pp i) k) (pn i)) k) (by rw [hg_16]) ?_
        refine z_eqI (b := lin (G 0) (c 0) (G 1) (c 1) k % p) (by rw [rowAt_in ⟨by omega, by omega⟩, hp_, hn_]; exact cyc_lin (by omega) (by omega) (by omega) (by omega) ⟨by omega, by omega⟩ hz0 hz1) ?_
        refine lv_iload hx hb dL_isRoundRight_74 (lv_at hl 6 rfl) ?_
        refine lv_iload_n hx hb dL_isRoundRight_76 rfl (lv_at hl 3 rfl) ?_
        refine z_iremt hx hb dL_isRoundRight_77 (by omega) (by omega) ?_
        refine lv_iload_n hx hb dL_isRoundRight_78 rfl (lv_at hl 3 rfl) ?_
        refine z_iadd hx hb dL_isRoundRight_79 ?_
        have htm := z_tm (x := lin (G 0) (c 0) (G 1) (c 1) k) (m := p) (by omega)
        refine lv_iload_n hx hb dL_isRoundRight_80 rfl (lv_at hl 3 rfl) ?_
        refine z_irem hx hb dL_isRoundRight_81 (by omega) (by omega) ?_
        have hm_81 := z_rem (a := (Int.tmod (lin (G 0) (c 0) (G 1) (c 1) k) p) + p) (n := p) (by omega)
        refine z_icmp_ne (tgt := 89) hx hb dL_isRoundRight_82 (by decide) (by omega) (fun c_82 => absurd c_82 (by exact fun q => q (z_tmm (by omega)).symm)) (fun c_82 => ?_)
        refine z_iconst hx hb dL_isRoundRight_85 ?_
        refine lv_goto (tgt := 90) hx hb dL_isRoundRight_86 (by decide) ?_
        refine lv_istore (lv' := [(4, .int (zI 1)), (0, .ref (ad (4, 0))), (1, .int (zI i)), (2, .int (zI n)), (3, .int (zI p)), (5, .int (zI k)), (6, .int (zI (lin (G 0) (c 0) (G 1) (c 1) k)))]) hx hb dL_isRoundRight_90 hl (by decide) rfl (fun ls hl => ?_)
        have hl := lv_sub hl [1, 2, 3, 4, 0, 5, 6] rfl
        have hl : lv_has ls 7 [(0, .ref (ad (4, 0))), (1, .int (zI i)), (2, .int (zI n)), (3, .int (zI p)), (4, .int (zI 1)), (5, .int (zI k)), (6, .int (zI (lin (G 0) (c 0) (G 1) (c 1) k)))] := hl
        refine lv_iinc (v := zI (k + 1)) (lv' := [(5, .int (zI (k + 1))), (0, .ref (ad (4, 0))), (1, .int (zI i)), (2, .int (zI n)), (3, .int (zI p)), (4, .int (zI 1)), (6, .int (zI (lin (G 0) (c 0) (G 1) (c 1) k)))]) hx hb dL_isRoundRight_92 hl (k := 5) rfl (zI_add _ _) (by decide) rfl (fun ls hl => ?_)
        have hl := lv_sub hl [1, 2, 3, 4, 5, 0, 6] rfl
        have hl : lv_has ls 7 [(0, .ref (ad (4, 0))), (1, .int (zI i)), (2, .int (zI n)), (3, .int (zI p)), (4, .int (zI 1)), (5, .int (zI (k + 1))), (6, .int (zI (lin (G 0) (c 0) (G 1) (c 1) k)))] := hl
        refine lv_goto (tgt := 33) hx hb dL_isRoundRight_95 (by decide) ?_
        exact ih_33 (k + 1) _ _ _ ⟨(by omega), hY, hS, lv_sub hl [0, 1, 2, 3, 4, 5] rfl⟩ (by show (n - (k + 1)).toNat < (n - k).toNat; omega)
  · refine z_iconst hx hb dL_isRoundRight_9 ?_
    exact y_iret hx hb hr hlocks 1 (rfl) (by exact ⟨rfl, rfl, rfl⟩) hY hAe hS dL_isRoundRight_10
end Q2
