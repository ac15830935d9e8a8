set_option maxHeartbeats 4000000 in
set_option maxRecDepth 100000 in
theorem c_X4_pairs (l : Launch) (D : va_G) (x : Int) (hx_ : 0 ≤ x ∧ x ≤ 128) : zF l yX4_pairs wsX4_pairs ({ frames := 0, cells := 0, slots := 0, locals := 0 } : Room) D [] [] [.int (zI x)] (some (.int (zI (zP x)))) := by
  refine z_start (cc := cX4_pairs) (maxL := 1) (ret := (some .int)) (own := RX4) (by decide) rfl rfl (Nat.le_of_ble_eq_true rfl) [(0, .int (zI x))] rfl ?_
  intro pp ee s mm below meth cc A H ls hx hb hr hml hts hown hlocks hin hK hA hP hD hS hR0 hR hl
  have CF : CallFix pp mm cc cX4_pairs 1 s ([.int (zI x)] : List Value).toArray wsX4_pairs RX4 := ⟨hx, hb, hml, hown, hts⟩
  refine lv_iload_n hx hb dX4_pairs_0 rfl (lv_at hl 0 rfl) ?_
  refine lv_iload_n hx hb dX4_pairs_1 rfl (lv_at hl 0 rfl) ?_
  refine z_iconst hx hb dX4_pairs_2 ?_
  refine z_isub hx hb dX4_pairs_3 ?_
  refine z_imul hx hb dX4_pairs_4 ?_
  have hz := zP_2 x
  have hr1 := zP_rng (x := x) (M := 128) hx_
  refine z_iconst hx hb dX4_pairs_5 ?_
  refine z_idiv hx hb dX4_pairs_6 (by omega) (by omega) ?_
  have hres : zP x = (x * (x - 1)) / 2 := by rfl
  exact z_iret hx hb hr hlocks rfl () (congrArg (fun z => some (Value.int (zI z))) hres) (trivial) z_nilP z_nilD hS dX4_pairs_7

set_option maxHeartbeats 4000000 in
set_option maxRecDepth 100000 in
theorem c_X4_opposite (l : Launch) (D : va_G) (m : Int) (r : Int) (hm_ : 0 ≤ m ∧ m ≤ 64) (hr_ : 0 ≤ r ∧ r ≤ 64) : zF l yX4_opposite wsX4_opposite ({ frames := 0, cells := 0, slots := 0, locals := 0 } : Room) D [] [] [.int (zI m), .int (zI r)] (some (.int (zI (zOp r m)))) := by
  refine z_start (cc := cX4_opposite) (maxL := 2) (ret := (some .int)) (own := RX4) (by decide) rfl rfl (Nat.le_of_ble_eq_true rfl) [(0, .int (zI m)), (1, .int (zI r))] rfl ?_
  intro pp ee s mm below meth cc A H ls hx hb hr hml hts hown hlocks hin hK hA hP hD hS hR0 hR hl
  have CF : CallFix pp mm cc cX4_opposite 2 s ([.int (zI m), .int (zI r)] : List Value).toArray wsX4_opposite RX4 := ⟨hx, hb, hml, hown, hts⟩
  refine lv_iload_n hx hb dX4_opposite_0 rfl (lv_at hl 0 rfl) ?_
  refine z_if_ne (tgt := 8) hx hb dX4_opposite_1 (by decide) (by omega) (fun c_1 => ?_) (fun c_1 => ?_)
  · refine lv_iload_n hx hb dX4_opposite_8 rfl (lv_at hl 1 rfl) ?_
    refine lv_iload_n hx hb dX4_opposite_9 rfl (lv_at hl 0 rfl) ?_
    refine z_isub hx hb dX4_opposite_10 ?_
    have hres : zOp r m = r - m := by unfold zOp; first | rw [if_pos c_1] | rw [if_neg c_1]
    exact z_iret hx hb hr hlocks rfl () (congrArg (fun z => some (Value.int (zI z))) hres) (trivial) z_nilP z_nilD hS dX4_opposite_11
  · refine z_iconst hx hb dX4_opposite_4 ?_
    refine lv_goto (tgt := 11) hx hb dX4_opposite_5 (by decide) ?_
    have hres : zOp r m = 0 := by unfold zOp; first | rw [if_pos c_1] | rw [if_neg c_1]
    exact z_iret hx hb hr hlocks rfl () (congrArg (fun z => some (Value.int (zI z))) hres) (trivial) z_nilP z_nilD hS dX4_opposite_11

set_option maxHeartbeats 4000000 in
set_option maxRecDepth 100000 in
theorem c_X4_fillSeats (l : Launch) (D : va_G) (cI : ClassId) (h0 : Nat) (qm : Nat) (qg : Nat) (ql : Nat) (qs : Nat) (qc : Nat) (h1 : Nat) (p : Int) (n : Int) (iv : Int) (wy : Int) (gn : Int) (hw : Nat) (sg : Int → Int) (r : Int) (hn : 2 ≤ n ∧ n ≤ 64) (hgn : 1 ≤ gn ∧ gn ≤ 64) (hr_ : 0 ≤ r ∧ r ≤ 64) : zC l yX4_fillSeats wsX4_fillSeats ({ frames := 1, cells := 0, slots := 0, locals := 24 } : Room) D [(cI, .int)] [(qs, .inl (cI, 64, .inl (zA sg)))] [(h0, .inr (3, [.ref qm, .ref qg, .ref ql, .ref qs, .ref qc])), (h1, .inr (1, [.int (zI p), .int (zI n), .int (zI iv), .int (zI wy), .int (zI gn), .ref hw]))] [.ref h0, .ref h1, .int (zI r)] (S := Int → Int) (fun s2 => ∀ m, 0 ≤ m → m < r → s2 m = pwm gn m n) (fun s2 => none) (fun s2 => [(qs, .inl (cI, 64, .inl (zA s2)))]) := by
  refine z_start (cc := cX4_fillSeats) (maxL := 5) (ret := none) (own := RX4) (by decide) rfl rfl (Nat.le_of_ble_eq_true rfl) [(0, .ref h0), (1, .ref h1), (2, .int (zI r))] rfl ?_
  intro pp ee s mm below meth cc A H ls hx hb hr hml hts hown hlocks hin hK hA hP hD hS hR0 hR hl
  have CF : CallFix pp mm cc cX4_fillSeats 5 s ([.ref h0, .ref h1, .int (zI r)] : List Value).toArray wsX4_fillSeats RX4 := ⟨hx, hb, hml, hown, hts⟩
  have hi4 : ∀ w ∈ wsX40, w ∈ wsX4_fillSeats := by decide +kernel
  refine z_iconst hx hb dX4_fillSeats_0 ?_
  refine lv_istore_n (lv' := [(3, .int (zI 1)), (0, .ref h0), (1, .ref h1), (2, .int (zI r))]) hx hb dX4_fillSeats_1 rfl hl (by decide) rfl (fun ls hl => ?_)
  have hl := lv_sub hl [1, 2, 3, 0] rfl
  have hl : lv_has ls 5 [(0, .ref h0), (1, .ref h1), (2, .int (zI r)), (3, .int (zI 1))] := hl
  refine z_iconst hx hb dX4_fillSeats_2 ?_
  refine lv_istore (lv' := [(4, .int (zI 0)), (0, .ref h0), (1, .ref h1), (2, .int (zI r)), (3, .int (zI 1))]) hx hb dX4_fillSeats_3 hl (by decide) rfl (fun ls hl => ?_)
  have hl := lv_sub hl [1, 2, 3, 4, 0] rfl
  have hl : lv_has ls 5 [(0, .ref h0), (1, .ref h1), (2, .int (zI r)), (3, .int (zI 1)), (4, .int (zI 0))] := hl
  refine z_loop (σ := Int × Int × (Int → Int)) (fun (x, i, s2) => (r - i).toNat) (fun (x, i, s2) H locs ls => (0 ≤ i ∧ i ≤ r) ∧ x = pwm gn i n ∧ (∀ m, 0 ≤ m → m < i → s2 m = pwm gn m n) ∧ va_P D vwCl [(qs, .inl (cI, 64, .inl (zA s2)))] H ∧ va_D A [(qs, .inl (cI, 64, .inl (zA s2)))] ∧ va_S A s.heap H locs ∧ lv_has ls 5 [(0, .ref h0), (1, .ref h1), (2, .int (zI r)), (3, .int (zI x)), (4, .int (zI i))]) (1, 0, sg) ⟨(by omega), (by exact (pwm_1 (by omega)).symm), (fun k h1 h2 => absurd h2 (by omega)), hP, hD, hS, hl⟩ ?_
  intro ⟨x, i, s2⟩ H locs ls hI ih_5
  obtain ⟨hi_, hx_, hf, hP, hD, hS, hl⟩ := hI
  have hR := hR0.at hS
  refine lv_iload hx hb dX4_fillSeats_5 (lv_at hl 4 rfl) ?_
  refine lv_iload_n hx hb dX4_fillSeats_7 rfl (lv_at hl 2 rfl) ?_
  refine z_icmp_ge (tgt := 41) hx hb dX4_fillSeats_8 (by decide) (by omega) (fun c_8 => ?_) (fun c_8 => ?_)
  · exact z_vret hx hb hr hlocks s2 rfl (fun m h1 h2 => hf m h1 (by omega)) hP hD hS dX4_fillSeats_41
  · have hxr : 0 ≤ x ∧ x < n := by rw [hx_]; exact pwm_rng (by omega)
    have hst := pwm_add (b := gn) (n := n) (x := i) (y := 1) hi_.1 (by decide)
    rw [show pwm gn 1 n = gn % n by unfold pwm; rw [show (1 : Int).toNat = 1 from rfl, Int.pow_succ, Int.pow_zero, Int.one_mul], Int.mul_emod, Int.emod_emod, ← Int.mul_emod] at hst
    have hb1 := z_mulb (a := x) (b := gn) (A := 64) (B := 64) (by omega) (by omega) (by omega) (by omega)
    refine lv_aload_n hx hb dX4_fillSeats_11 rfl (lv_at hl 0 rfl) ?_
    refine va_get (D := D) (ci := 3) (C := RX4) (T := TX4) (N := 5) hx hb hts hi4 hown hK hR 0 rfl rfl 3 (by decide) (hts (.fieldLink RX4 21 "ButterflyYard$Transformer" "seats" "[I") (by decide +kernel)) (fun _ h9 => h9) rfl dX4_fillSeats_12 ?_
    refine lv_iload hx hb dX4_fillSeats_15 (lv_at hl 4 rfl) ?_
    refine lv_iload_n hx hb dX4_fillSeats_17 rfl (lv_at hl 3 rfl) ?_
    refine z_iast (cA := cI) (n := 64) (g := s2) (i := i) (v := x) hx hb hK hP hD hS 0 0 rfl rfl rfl (by omega) dX4_fillSeats_18 (fun H locs hP hD hS => ?_)
    have hP : va_P D vwCl [(qs, .inl (cI, 64, .inl (zA (zU s2 i x))))] H := hP
    have hD : va_D A [(qs, .inl (cI, 64, .inl (zA (zU s2 i x))))] := hD
    have hR := hR0.at hS
    refine lv_iload_n hx hb dX4_fillSeats_19 rfl (lv_at hl 3 rfl) ?_
    refine z_i2l hx hb dX4_fillSeats_20 (by omega) ?_
    refine lv_aload_n hx hb dX4_fillSeats_21 rfl (lv_at hl 1 rfl) ?_
    have hRc := z_subR (ws := [(qs, .inl (cI, 64, .inl (zA (zU s2 i x))))]) (rs := [(h0, .inr (3, [.ref qm, .ref qg, .ref ql, .ref qs, .ref qc])), (h1, .inr (1, [.int (zI p), .int (zI n), .int (zI iv), .int (zI wy), .int (zI gn), .ref hw]))]) (rc := [(h1, .inr (1, [.int (zI p), .int (zI n), .int (zI iv), .int (zI wy), .int (zI gn), .ref hw]))]) hP hR (isR := [2]) rfl
    refine z_ro (ws := [(qs, .inl (cI, 64, .inl (zA (zU s2 i x))))]) (va_runV (As := []) (rest := [.long (zL x)]) CF (c_X2_generator l D h1 p n iv wy gn hw H.size) (cwV 0 hts gX4_fillSeats_X2_generator rfl rfl rfl (by decide +kernel) ⟨Nat.le_of_ble_eq_true rfl, Nat.le_of_ble_eq_true rfl⟩) (z_preV (va_recv hK hR (ci := 1) (q0 := 1) rfl rfl) z_nilP (z_nilD (A := A)) hRc z_noX (hK.sub (tys' := []) [] rfl)) rfl rfl hl.1 rfl (lv_room (Nat.le_of_ble_eq_true rfl)) dX4_fillSeats_22 ⟨Nat.le_of_ble_eq_true rfl, Nat.le_of_ble_eq_true rfl⟩) hP hS hA (cells' := 0) (slots' := 0) rfl rfl (fun H locs hP hS => ?_)
    have hR := hR0.at hS
    refine z_i2l hx hb dX4_fillSeats_25 (by omega) ?_
    refine z_lmul hx hb dX4_fillSeats_26 ?_
    refine lv_aload_n hx hb dX4_fillSeats_27 rfl (lv_at hl 1 rfl) ?_
    have hRc := z_subR (ws := [(qs, .inl (cI, 64, .inl (zA (zU s2 i x))))]) (rs := [(h0, .inr (3, [.ref qm, .ref qg, .ref ql, .ref qs, .ref qc])), (h1, .inr (1, [.int (zI p), .int (zI n), .int (zI iv), .int (zI wy), .int (zI gn), .ref hw]))]) (rc := [(h1, .inr (1, [.int (zI p), .int (zI n), .int (zI iv), .int (zI wy), .int (zI gn), .ref hw]))]) hP hR (isR := [2]) rfl
    refine z_ro (ws := [(qs, .inl (cI, 64, .inl (zA (zU s2 i x))))]) (va_runV (As := []) (rest := [.long (zL (x * gn))]) CF (c_X2_size l D h1 p n iv wy gn hw H.size) (cwV 0 hts gX4_fillSeats_X2_size rfl rfl rfl (by decide +kernel) ⟨Nat.le_of_ble_eq_true rfl, Nat.le_of_ble_eq_true rfl⟩) (z_preV (va_recv hK hR (ci := 1) (q0 := 1) rfl rfl) z_nilP (z_nilD (A := A)) hRc z_noX (hK.sub (tys' := []) [] rfl)) rfl rfl hl.1 rfl (lv_room (Nat.le_of_ble_eq_true rfl)) dX4_fillSeats_28 ⟨Nat.le_of_ble_eq_true rfl, Nat.le_of_ble_eq_true rfl⟩) hP hS hA (cells' := 0) (slots' := 0) rfl rfl (fun H locs hP hS => ?_)
    have hR := hR0.at hS
    have hRc : va_P D vwCl [] H := z_nilP
    refine z_ro (ws := [(qs, .inl (cI, 64, .inl (zA (zU s2 i x))))]) (va_runS (As := [.long (zL (x * gn)), .int (zI n)]) (rest := []) CF (c_X1_remainder l D (x * gn) n (by omega) (by omega) H.size) (va_cwS 2 hts gX4_fillSeats_X1_remainder rfl rfl rfl (by decide +kernel) ⟨Nat.le_of_ble_eq_true rfl, Nat.le_of_ble_eq_true rfl⟩) (z_preS z_nilP (z_nilD (A := A)) hRc z_noX (hK.sub (tys' := []) [] rfl)) rfl rfl hl.1 rfl (lv_room (Nat.le_of_ble_eq_true rfl)) dX4_fillSeats_31 ⟨Nat.le_of_ble_eq_true rfl, Nat.le_of_ble_eq_true rfl⟩) hP hS hA (cells' := 0) (slots' := 0) rfl rfl (fun H locs hP hS => ?_)
    have hR := hR0.at hS
    refine lv_istore_n (lv' := [(3, .int (zI ((x * gn) % n))), (0, .ref h0), (1, .ref h1), (2, .int (zI r)), (4, .int (zI i))]) hx hb dX4_fillSeats_34 rfl hl (by decide) rfl (fun ls hl => ?_)
    have hl := lv_sub hl [1, 2, 3, 0, 4] rfl
    have hl : lv_has ls 5 [(0, .ref h0), (1, .ref h1), (2, .int (zI r)), (3, .int (zI ((x * gn) % n))), (4, .int (zI i))] := hl
    refine lv_iinc (v := zI (i + 1)) (lv' := [(4, .int (zI (i + 1))), (0, .ref h0), (1, .ref h1), (2, .int (zI r)), (3, .int (zI ((x * gn) % n)))]) hx hb dX4_fillSeats_35 hl (k := 4) rfl (zI_add _ _) (by decide) rfl (fun ls hl => ?_)
    have hl := lv_sub hl [1, 2, 3, 4, 0] rfl
    have hl : lv_has ls 5 [(0, .ref h0), (1, .ref h1), (2, .int (zI r)), (3, .int (zI ((x * gn) % n))), (4, .int (zI (i + 1)))] := hl
    refine lv_goto (tgt := 5) hx hb dX4_fillSeats_38 (by decide) ?_
    exact ih_5 ((x * gn) % n, i + 1, zU s2 i x) _ _ _ ⟨(by omega), (by rw [hx_, ← hst]), (by exact zU_fill hf hx_), hP, hD, hS, hl⟩ (by show (r - (i + 1)).toNat < (r - i).toNat; omega)

set_option maxHeartbeats 4000000 in
set_option maxRecDepth 100000 in
theorem c_X4_byBluestein (l : Launch) (D : va_G) (cI : ClassId) (h0 : Nat) (qm : Nat) (qg : Nat) (ql : Nat) (qs : Nat) (qc : Nat) (h1 : Nat) (p : Int) (n : Int) (iv : Int) (wy : Int) (gn : Int) (hw : Nat) (pw : Int → Int) (he : Nat) (g : Int → Int) (tn : Int) (md : Int → Int) (ln : Int → Int) (cp : Int → Int) (hC : zCH p n pw) (hg : ∀ j, 0 ≤ j → j < n → 0 ≤ g j ∧ g j < p) (ht : 0 ≤ tn ∧ tn ≤ 64) : zC l yX4_byBluestein wsX4_byBluestein ({ frames := 2, cells := 0, slots := 0, locals := 46 } : Room) D [(cI, .int)] [(qm, .inl (cI, 64, .inl (zA md))), (ql, .inl (cI, 64, .inl (zA ln))), (qc, .inl (cI, 128, .inl (zA cp))), (he, .inl (cI, 64, .inl (zA g)))] [(h0, .inr (3, [.ref qm, .ref qg, .ref ql, .ref qs, .ref qc])), (h1, .inr (1, [.int (zI p), .int (zI n), .int (zI iv), .int (zI wy), .int (zI gn), .ref hw])), (hw, .inl (cI, 64, .inl (zA pw)))] [.ref h0, .ref h1, .ref he, .int (zI tn)] (S := (Int → Int) × (Int → Int) × (Int → Int) × (Int → Int)) (fun (md2, ln2, cp2, g2) => ∀ k, 0 ≤ k → k < n → g2 k = dft p n pw n tn g k) (fun (md2, ln2, cp2, g2) => none) (fun (md2, ln2, cp2, g2) => [(qm, .inl (cI, 64, .inl (zA md2))), (ql, .inl (cI, 64, .inl (zA ln2))), (qc, .inl (cI, 128, .inl (zA cp2))), (he, .inl (cI, 64, .inl (zA g2)))]) := by
  have hnp : 1 ≤ n ∧ n ≤ 64 ∧ 2 ≤ p ∧ p ≤ 10000 := ⟨hC.1, hC.2.1, hC.2.2.1, hC.2.2.2.1⟩
  have hpr := hC.2.2.2.2.1
  refine z_start (cc := cX4_byBluestein) (maxL := 9) (ret := none) (own := RX4) (by decide) rfl rfl (Nat.le_of_ble_eq_true rfl) [(0, .ref h0), (1, .ref h1), (2, .ref he), (3, .int (zI tn))] rfl ?_
  intro pp ee s mm below meth cc A H ls hx hb hr hml hts hown hlocks hin hK hA hP hD hS hR0 hR hl
  have CF : CallFix pp mm cc cX4_byBluestein 9 s ([.ref h0, .ref h1, .ref he, .int (zI tn)] : List Value).toArray wsX4_byBluestein RX4 := ⟨hx, hb, hml, hown, hts⟩
  have hi4 : ∀ w ∈ wsX40, w ∈ wsX4_byBluestein := by decide +kernel
  refine lv_aload_n hx hb dX4_byBluestein_0 rfl (lv_at hl 1 rfl) ?_
  have hRc := z_subR (ws := [(qm, .inl (cI, 64, .inl (zA md))), (ql, .inl (cI, 64, .inl (zA ln))), (qc, .inl (cI, 128, .inl (zA cp))), (he, .inl (cI, 64, .inl (zA g)))]) (rs := [(h0, .inr (3, [.ref qm, .ref qg, .ref ql, .ref qs, .ref qc])), (h1, .inr (1, [.int (zI p), .int (zI n), .int (zI iv), .int (zI wy), .int (zI gn), .ref hw])), (hw, .inl (cI, 64, .inl (zA pw)))]) (rc := [(h1, .inr (1, [.int (zI p), .int (zI n), .int (zI iv), .int (zI wy), .int (zI gn), .ref hw]))]) hP hR (isR := [5]) rfl
  refine z_ro (ws := [(qm, .inl (cI, 64, .inl (zA md))), (ql, .inl (cI, 64, .inl (zA ln))), (qc, .inl (cI, 128, .inl (zA cp))), (he, .inl (cI, 64, .inl (zA g)))]) (va_runV (As := []) (rest := []) CF (c_X2_size l D h1 p n iv wy gn hw H.size) (cwV 0 hts gX4_byBluestein_X2_size rfl rfl rfl (by decide +kernel) ⟨Nat.le_of_ble_eq_true rfl, Nat.le_of_ble_eq_true rfl⟩) (z_preV (va_recv hK hR (ci := 1) (q0 := 1) rfl rfl) z_nilP (z_nilD (A := A)) hRc z_noX (hK.sub (tys' := []) [] rfl)) rfl rfl hl.1 rfl (lv_room (Nat.le_of_ble_eq_true rfl)) dX4_byBluestein_1 ⟨Nat.le_of_ble_eq_true rfl, Nat.le_of_ble_eq_true rfl⟩) hP hS hA (cells' := 0) (slots' := 0) rfl rfl (fun H locs hP hS => ?_)
  have hR := hR0.at hS
  refine lv_istore (lv' := [(4, .int (zI n)), (0, .ref h0), (1, .ref h1), (2, .ref he), (3, .int (zI tn))]) hx hb dX4_byBluestein_4 hl (by decide) rfl (fun ls hl => ?_)
  have hl := lv_sub hl [1, 2, 3, 4, 0] rfl
  have hl : lv_has ls 9 [(0, .ref h0), (1, .ref h1), (2, .ref he), (3, .int (zI tn)), (4, .int (zI n))] := hl
  refine z_iconst hx hb dX4_byBluestein_6 ?_
  refine lv_istore (lv' := [(5, .int (zI 0)), (0, .ref h0), (1, .ref h1), (2, .ref he), (3, .int (zI tn)), (4, .int (zI n))]) hx hb dX4_byBluestein_7 hl (by decide) rfl (fun ls hl => ?_)
  have hl := lv_sub hl [1, 2, 3, 4, 5, 0] rfl
  have hl : lv_has ls 9 [(0, .ref h0), (1, .ref h1), (2, .ref he), (3, .int (zI tn)), (4, .int (zI n)), (5, .int (zI 0))] := hl
  refine z_loop (σ := Int × (Int → Int)) (fun (x, cp2) => (2 * n - 1 - x).toNat) (fun (x, cp2) H locs ls => (0 ≤ x ∧ x ≤ 2 * n - 1) ∧ (∀ y, 0 ≤ y → y < x → cp2 y = pw (tn * zP y % n)) ∧ va_P D vwCl [(qm, .inl (cI, 64, .inl (zA md))), (ql, .inl (cI, 64, .inl (zA ln))), (qc, .inl (cI, 128, .inl (zA cp2))), (he, .inl (cI, 64, .inl (zA g)))] H ∧ va_D A [(qm, .inl (cI, 64, .inl (zA md))), (ql, .inl (cI, 64, .inl (zA ln))), (qc, .inl (cI, 128, .inl (zA cp2))), (he, .inl (cI, 64, .inl (zA g)))] ∧ va_S A s.heap H locs ∧ lv_has ls 9 [(0, .ref h0), (1, .ref h1), (2, .ref he), (3, .int (zI tn)), (4, .int (zI n)), (5, .int (zI x))]) (0, cp) ⟨(by omega), (fun k h1 h2 => absurd h2 (by omega)), hP, hD, hS, hl⟩ ?_
  intro ⟨x, cp2⟩ H locs ls hI ih_9
  obtain ⟨hx_, hc, hP, hD, hS, hl⟩ := hI
  have hR := hR0.at hS
  refine lv_iload hx hb dX4_byBluestein_9 (lv_at hl 5 rfl) ?_
  refine z_iconst hx hb dX4_byBluestein_11 ?_
  refine lv_iload hx hb dX4_byBluestein_12 (lv_at hl 4 rfl) ?_
  refine z_imul hx hb dX4_byBluestein_14 ?_
  refine z_iconst hx hb dX4_byBluestein_15 ?_
  refine z_isub hx hb dX4_byBluestein_16 ?_
  refine z_icmp_ge (tgt := 44) hx hb dX4_byBluestein_17 (by decide) (by omega) (fun c_17 => ?_) (fun c_17 => ?_)
  · refine z_iconst hx hb dX4_byBluestein_44 ?_
    refine lv_istore (lv' := [(5, .int (zI 0)), (0, .ref h0), (1, .ref h1), (2, .ref he), (3, .int (zI tn)), (4, .int (zI n))]) hx hb dX4_byBluestein_45 hl (by decide) rfl (fun ls hl => ?_)
    have hl := lv_sub hl [1, 2, 3, 4, 5, 0] rfl
    have hl : lv_has ls 9 [(0, .ref h0), (1, .ref h1), (2, .ref he), (3, .int (zI tn)), (4, .int (zI n)), (5, .int (zI 0))] := hl
    refine z_loop (σ := Int × (Int → Int)) (fun (j, ln2) => (n - j).toNat) (fun (j, ln2) H locs ls => (0 ≤ j ∧ j ≤ n) ∧ (∀ y, 0 ≤ y → y < j → ln2 y = g y * pw (-tn * zP y % n) % p) ∧ va_P D vwCl [(qm, .inl (cI, 64, .inl (zA md))), (ql, .inl (cI, 64, .inl (zA ln2))), (qc, .inl (cI, 128, .inl (zA cp2))), (he, .inl (cI, 64, .inl (zA g)))] H ∧ va_D A [(qm, .inl (cI, 64, .inl (zA md))), (ql, .inl (cI, 64, .inl (zA ln2))), (qc, .inl (cI, 128, .inl (zA cp2))), (he, .inl (cI, 64, .inl (zA g)))] ∧ va_S A s.heap H locs ∧ lv_has ls 9 [(0, .ref h0), (1, .ref h1), (2, .ref he), (3, .int (zI tn)), (4, .int (zI n)), (5, .int (zI j))]) (0, ln) ⟨(by omega), (fun k h1 h2 => absurd h2 (by omega)), hP, hD, hS, hl⟩ ?_
    intro ⟨j, ln2⟩ H locs ls hI ih_47
    obtain ⟨hj_, hln, hP, hD, hS, hl⟩ := hI
    have hR := hR0.at hS
    refine lv_iload hx hb dX4_byBluestein_47 (lv_at hl 5 rfl) ?_
    refine lv_iload hx hb dX4_byBluestein_49 (lv_at hl 4 rfl) ?_
    refine z_icmp_ge (tgt := 90) hx hb dX4_byBluestein_51 (by decide) (by omega) (fun c_51 => ?_) (fun c_51 => ?_)
    · refine z_iconst hx hb dX4_byBluestein_90 ?_
      refine lv_istore (lv' := [(5, .int (zI 0)), (0, .ref h0), (1, .ref h1), (2, .ref he), (3, .int (zI tn)), (4, .int (zI n))]) hx hb dX4_byBluestein_91 hl (by decide) rfl (fun ls hl => ?_)
      have hl := lv_sub hl [1, 2, 3, 4, 5, 0] rfl
      have hl : lv_has ls 9 [(0, .ref h0), (1, .ref h1), (2, .ref he), (3, .int (zI tn)), (4, .int (zI n)), (5, .int (zI 0))] := hl
      refine z_loop (σ := Int × (Int → Int)) (fun (k, md2) => (n - k).toNat) (fun (k, md2) H locs ls => (0 ≤ k ∧ k ≤ n) ∧ (∀ y, 0 ≤ y → y < k → md2 y = dft p n pw n tn g y) ∧ va_P D vwCl [(qm, .inl (cI, 64, .inl (zA md2))), (ql, .inl (cI, 64, .inl (zA ln2))), (qc, .inl (cI, 128, .inl (zA cp2))), (he, .inl (cI, 64, .inl (zA g)))] H ∧ va_D A [(qm, .inl (cI, 64, .inl (zA md2))), (ql, .inl (cI, 64, .inl (zA ln2))), (qc, .inl (cI, 128, .inl (zA cp2))), (he, .inl (cI, 64, .inl (zA g)))] ∧ va_S A s.heap H locs ∧ lv_has ls 9 [(0, .ref h0), (1, .ref h1), (2, .ref he), (3, .int (zI tn)), (4, .int (zI n)), (5, .int (zI k))]) (0, md) ⟨(by omega), (fun k h1 h2 => absurd h2 (by omega)), hP, hD, hS, hl⟩ ?_
      intro ⟨k, md2⟩ H locs ls hI ih_93
      obtain ⟨hk_, hmd, hP, hD, hS, hl⟩ := hI
      have hR := hR0.at hS
      have hln' : ∀ j, 0 ≤ j → j < n → ln2 j = g j * pw (-tn * zP j % n) % p := fun y h1 h2 => hln y h1 (by omega)
      have hc' : ∀ x, 0 ≤ x → x < 2 * n - 1 → cp2 x = pw (tn * zP x % n) := fun y h1 h2 => hc y h1 (by omega)
      refine lv_iload hx hb dX4_byBluestein_93 (lv_at hl 5 rfl) ?_
      refine lv_iload hx hb dX4_byBluestein_95 (lv_at hl 4 rfl) ?_
      refine z_icmp_ge (tgt := 182) hx hb dX4_byBluestein_97 (by decide) (by omega) (fun c_97 => ?_) (fun c_97 => ?_)
      · refine lv_aload_n hx hb dX4_byBluestein_182 rfl (lv_at hl 0 rfl) ?_
        refine lv_aload_n hx hb dX4_byBluestein_183 rfl (lv_at hl 2 rfl) ?_
        refine lv_iload hx hb dX4_byBluestein_184 (lv_at hl 4 rfl) ?_
        have hRc := z_subR (ws := [(qm, .inl (cI, 64, .inl (zA md2))), (ql, .inl (cI, 64, .inl (zA ln2))), (qc, .inl (cI, 128, .inl (zA cp2))), (he, .inl (cI, 64, .inl (zA g)))]) (rs := [(h0, .inr (3, [.ref qm, .ref qg, .ref ql, .ref qs, .ref qc])), (h1, .inr (1, [.int (zI p), .int (zI n), .int (zI iv), .int (zI wy), .int (zI gn), .ref hw])), (hw, .inl (cI, 64, .inl (zA pw)))]) (rc := [(h0, .inr (3, [.ref qm, .ref qg, .ref ql, .ref qs, .ref qc])), (qm, .inl (cI, 64, .inl (zA md2)))]) hP hR (isR := [4, 0]) rfl
        have hPc := hP.sub (ws' := [(he, .inl (cI, 64, .inl (zA g)))]) [3] rfl
        have hDc := hD.sub (ws' := [(he, .inl (cI, 64, .inl (zA g)))]) [3] (by decide) rfl
        refine z_mu (ws := [(qm, .inl (cI, 64, .inl (zA md2))), (ql, .inl (cI, 64, .inl (zA ln2))), (qc, .inl (cI, 128, .inl (zA cp2))), (he, .inl (cI, 64, .inl (zA g)))]) (wc := [(he, .inl (cI, 64, .inl (zA g)))]) (wr := [(qm, .inl (cI, 64, .inl (zA md2))), (ql, .inl (cI, 64, .inl (zA ln2))), (qc, .inl (cI, 128, .inl (zA cp2)))]) (va_runV (As := [.ref he, .int (zI n)]) (rest := []) CF (c_X4_copyMade l D cI h0 qm qg ql qs qc md2 he g n (by omega) H.size) (cwV 2 hts gX4_byBluestein_X4_copyMade rfl rfl rfl (by decide +kernel) ⟨Nat.le_of_ble_eq_true rfl, Nat.le_of_ble_eq_true rfl⟩) (z_preV (va_recv hK hR (ci := 3) (q0 := 0) rfl rfl) hPc hDc hRc (z_dis (ws := [(qm, .inl (cI, 64, .inl (zA md2))), (ql, .inl (cI, 64, .inl (zA ln2))), (qc, .inl (cI, 128, .inl (zA cp2))), (he, .inl (cI, 64, .inl (zA g)))]) (rs := [(h0, .inr (3, [.ref qm, .ref qg, .ref ql, .ref qs, .ref qc])), (h1, .inr (1, [.int (zI p), .int (zI n), .int (zI iv), .int (zI wy), .int (zI gn), .ref hw])), (hw, .inl (cI, 64, .inl (zA pw)))]) (wc := [(he, .inl (cI, 64, .inl (zA g)))]) (rc := [(h0, .inr (3, [.ref qm, .ref qg, .ref ql, .ref qs, .ref qc])), (qm, .inl (cI, 64, .inl (zA md2)))]) hD hR0 (isC := [3]) (isR := [4, 0]) rfl rfl (by decide)) (hK.sub (tys' := [(cI, .int)]) [0] rfl)) rfl rfl hl.1 rfl (lv_room (Nat.le_of_ble_eq_true rfl)) dX4_byBluestein_186 ⟨Nat.le_of_ble_eq_true rfl, Nat.le_of_ble_eq_true rfl⟩) hP hD hS hA [3] [0, 1, 2] rfl rfl (by decide) (by decide) (cells' := 0) (slots' := 0) rfl rfl (fun u_186 H locs hp_186 hP hD hS => ?_)
        revert hp_186 hP hD
        generalize u_186 = g2_186
        intro hp_186 hP hD
        have hp_186 : ∀ k, 0 ≤ k → k < n → g2_186 k = md2 k := hp_186
        have hP := hP.sub (ws' := [(qm, .inl (cI, 64, .inl (zA md2))), (ql, .inl (cI, 64, .inl (zA ln2))), (qc, .inl (cI, 128, .inl (zA cp2))), (he, .inl (cI, 64, .inl (zA g2_186)))]) [0, 1, 2, 3] rfl
        have hD := hD.sub (ws' := [(qm, .inl (cI, 64, .inl (zA md2))), (ql, .inl (cI, 64, .inl (zA ln2))), (qc, .inl (cI, 128, .inl (zA cp2))), (he, .inl (cI, 64, .inl (zA g2_186)))]) [0, 1, 2, 3] (by decide) rfl
        have hR := hR0.at hS
        exact z_vret hx hb hr hlocks (md2, ln2, cp2, g2_186) rfl (fun x h1 h2 => by show g2_186 x = _; rw [hp_186 x h1 h2]; exact hmd x h1 (by omega)) hP hD hS dX4_byBluestein_189
      · refine z_lconst0 hx hb dX4_byBluestein_100 ?_
        refine lv_lstore (lv' := [(6, .long (zL 0)), (0, .ref h0), (1, .ref h1), (2, .ref he), (3, .int (zI tn)), (4, .int (zI n)), (5, .int (zI k))]) hx hb dX4_byBluestein_101 hl (by decide) rfl (fun ls hl => ?_)
        have hl := lv_sub hl [1, 2, 3, 4, 5, 6, 0] rfl
        have hl : lv_has ls 9 [(0, .ref h0), (1, .ref h1), (2, .ref he), (3, .int (zI tn)), (4, .int (zI n)), (5, .int (zI k)), (6, .long (zL 0))] := hl
        refine z_iconst hx hb dX4_byBluestein_103 ?_
        refine lv_istore (lv' := [(8, .int (zI 0)), (0, .ref h0), (1, .ref h1), (2, .ref he), (3, .int (zI tn)), (4, .int (zI n)), (5, .int (zI k)), (6, .long (zL 0))]) hx hb dX4_byBluestein_104 hl (by decide) rfl (fun ls hl => ?_)
        have hl := lv_sub hl [1, 2, 3, 4, 5, 6, 7, 0] rfl
        have hl : lv_has ls 9 [(0, .ref h0), (1, .ref h1), (2, .ref he), (3, .int (zI tn)), (4, .int (zI n)), (5, .int (zI k)), (6, .long (zL 0)), (8, .int (zI 0))] := hl
        refine z_loop (σ := Int × Int) (fun (t, i) => (n - i).toNat) (fun (t, i) H locs ls => (0 ≤ i ∧ i ≤ n) ∧ t = zT (fun j => ln2 j * cp2 (j + k)) i ∧ (0 ≤ t ∧ t ≤ i * 100000000) ∧ va_P D vwCl [(qm, .inl (cI, 64, .inl (zA md2))), (ql, .inl (cI, 64, .inl (zA ln2))), (qc, .inl (cI, 128, .inl (zA cp2))), (he, .inl (cI, 64, .inl (zA g)))] H ∧ va_D A [(qm, .inl (cI, 64, .inl (zA md2))), (ql, .inl (cI, 64, .inl (zA ln2))), (qc, .inl (cI, 128, .inl (zA cp2))), (he, .inl (cI, 64, .inl (zA g)))] ∧ va_S A s.heap H locs ∧ lv_has ls 9 [(0, .ref h0), (1, .ref h1), (2, .ref he), (3, .int (zI tn)), (4, .int (zI n)), (5, .int (zI k)), (6, .long (zL t)), (8, .int (zI i))]) (0, 0) ⟨(by omega), (by rfl), (by omega), hP, hD, hS, hl⟩ ?_
        intro ⟨t, i⟩ H locs ls hI ih_106
        obtain ⟨hi_, ht_, htr, hP, hD, hS, hl⟩ := hI
        have hR := hR0.at hS
        refine lv_iload hx hb dX4_byBluestein_106 (lv_at hl 7 rfl) ?_
        refine lv_iload hx hb dX4_byBluestein_108 (lv_at hl 4 rfl) ?_
        refine z_icmp_ge (tgt := 144) hx hb dX4_byBluestein_110 (by decide) (by omega) (fun c_110 => ?_) (fun c_110 => ?_)
        · refine lv_aload_n hx hb dX4_byBluestein_144 rfl (lv_at hl 0 rfl) ?_
          refine va_get (D := D) (ci := 3) (C := RX4) (T := TX4) (N := 5) hx hb hts hi4 hown hK hR 0 rfl rfl 0 (by decide) (hts (.fieldLink RX4 9 "ButterflyYard$Transformer" "made" "[I") (by decide +kernel)) (fun _ h9 => h9) rfl dX4_byBluestein_145 ?_
          refine lv_iload hx hb dX4_byBluestein_148 (lv_at hl 5 rfl) ?_
          refine lv_aload_n hx hb dX4_byBluestein_150 rfl (lv_at hl 1 rfl) ?_
          refine lv_aload_n hx hb dX4_byBluestein_151 rfl (lv_at hl 1 rfl) ?_
          refine lv_lload hx hb dX4_byBluestein_152 (lv_at hl 6 rfl) ?_
          have hRc := z_subR (ws := [(qm, .inl (cI, 64, .inl (zA md2))), (ql, .inl (cI, 64, .inl (zA ln2))), (qc, .inl (cI, 128, .inl (zA cp2))), (he, .inl (cI, 64, .inl (zA g)))]) (rs := [(h0, .inr (3, [.ref qm, .ref qg, .ref ql, .ref qs, .ref qc])), (h1, .inr (1, [.int (zI p), .int (zI n), .int (zI iv), .int (zI wy), .int (zI gn), .ref hw])), (hw, .inl (cI, 64, .inl (zA pw)))]) (rc := [(h1, .inr (1, [.int (zI p), .int (zI n), .int (zI iv), .int (zI wy), .int (zI gn), .ref hw]))]) hP hR (isR := [5]) rfl
          refine z_ro (ws := [(qm, .inl (cI, 64, .inl (zA md2))), (ql, .inl (cI, 64, .inl (zA ln2))), (qc, .inl (cI, 128, .inl (zA cp2))), (he, .inl (cI, 64, .inl (zA g)))]) (va_runV (As := [.long (zL t)]) (rest := [.ref h1, .int (zI k), .ref qm]) CF (c_X2_remainder l D h1 p n iv wy gn hw t (by omega) (by omega) H.size) (cwV 1 hts gX4_byBluestein_X2_remainder rfl rfl rfl (by decide +kernel) ⟨Nat.le_of_ble_eq_true rfl, Nat.le_of_ble_eq_true rfl⟩) (z_preV (va_recv hK hR (ci := 1) (q0 := 1) rfl rfl) z_nilP (z_nilD (A := A)) hRc z_noX (hK.sub (tys' := []) [] rfl)) rfl rfl hl.1 rfl (lv_room (Nat.le_of_ble_eq_true rfl)) dX4_byBluestein_154 ⟨Nat.le_of_ble_eq_true rfl, Nat.le_of_ble_eq_true rfl⟩) hP hS hA (cells' := 0) (slots' := 0) rfl rfl (fun H locs hP hS => ?_)
          have hR := hR0.at hS
          have hq1 := z_rem (a := t) (n := p) (by omega)
          refine z_i2l hx hb dX4_byBluestein_157 (by omega) ?_
          refine lv_aload_n hx hb dX4_byBluestein_158 rfl (lv_at hl 1 rfl) ?_
          refine lv_iload_n hx hb dX4_byBluestein_159 rfl (lv_at hl 3 rfl) ?_
          refine z_ineg hx hb dX4_byBluestein_160 ?_
          refine lv_iload hx hb dX4_byBluestein_161 (lv_at hl 5 rfl) ?_
          have hRc : va_P D vwCl [] H := z_nilP
          refine z_ro (ws := [(qm, .inl (cI, 64, .inl (zA md2))), (ql, .inl (cI, 64, .inl (zA ln2))), (qc, .inl (cI, 128, .inl (zA cp2))), (he, .inl (cI, 64, .inl (zA g)))]) (va_runS (As := [.int (zI k)]) (rest := [.int (zI (-tn)), .ref h1, .long (zL (t % p)), .ref h1, .int (zI k), .ref qm]) CF (c_X4_pairs l D k (by omega) H.size) (va_cwS 1 hts gX4_byBluestein_X4_pairs rfl rfl rfl (by decide +kernel) ⟨Nat.le_of_ble_eq_true rfl, Nat.le_of_ble_eq_true rfl⟩) (z_preS z_nilP (z_nilD (A := A)) hRc z_noX (hK.sub (tys' := []) [] rfl)) rfl rfl hl.1 rfl (lv_room (Nat.le_of_ble_eq_true rfl)) dX4_byBluestein_163 ⟨Nat.le_of_ble_eq_true rfl, Nat.le_of_ble_eq_true rfl⟩) hP hS hA (cells' := 0) (slots' := 0) rfl rfl (fun H locs hP hS => ?_)
          have hR := hR0.at hS
          have hp1 := zP_rng (x := k) (M := 128) (by omega)
          have hb1 := z_mulb (a := tn) (b := zP k) (A := 64) (B := 16384) (by omega) (by omega) (by omega) (by omega)
          have hb2 : -tn * zP k = -(tn * zP k) := Int.neg_mul _ _
          refine z_imul hx hb dX4_byBluestein_166 ?_
          have hRc := z_subR (ws := [(qm, .inl (cI, 64, .inl (zA md2))), (ql, .inl (cI, 64, .inl (zA ln2))), (qc, .inl (cI, 128, .inl (zA cp2))), (he, .inl (cI, 64, .inl (zA g)))]) (rs := [(h0, .inr (3, [.ref qm, .ref qg, .ref ql, .ref qs, .ref qc])), (h1, .inr (1, [.int (zI p), .int (zI n), .int (zI iv), .int (zI wy), .int (zI gn), .ref hw])), (hw, .inl (cI, 64, .inl (zA pw)))]) (rc := [(h1, .inr (1, [.int (zI p), .int (zI n), .int (zI iv), .int (zI wy), .int (zI gn), .ref hw])), (hw, .inl (cI, 64, .inl (zA pw)))]) hP hR (isR := [5, 6]) rfl
          refine z_ro (ws := [(qm, .inl (cI, 64, .inl (zA md2))), (ql, .inl (cI, 64, .inl (zA ln2))), (qc, .inl (cI, 128, .inl (zA cp2))), (he, .inl (cI, 64, .inl (zA g)))]) (va_runV (As := [.int (zI ((-tn) * (zP k)))]) (rest := [.long (zL (t % p)), .ref h1, .int (zI k), .ref qm]) CF (c_X2_power l D cI h1 p n iv wy gn hw pw ((-tn) * (zP k)) (by omega) (by omega) H.size) (cwV 1 hts gX4_byBluestein_X2_power rfl rfl rfl (by decide +kernel) ⟨Nat.le_of_ble_eq_true rfl, Nat.le_of_ble_eq_true rfl⟩) (z_preV (va_recv hK hR (ci := 1) (q0 := 1) rfl rfl) z_nilP (z_nilD (A := A)) hRc z_noX (hK.sub (tys' := [(cI, .int)]) [0] rfl)) rfl rfl hl.1 rfl (lv_room (Nat.le_of_ble_eq_true rfl)) dX4_byBluestein_167 ⟨Nat.le_of_ble_eq_true rfl, Nat.le_of_ble_eq_true rfl⟩) hP hS hA (cells' := 0) (slots' := 0) rfl rfl (fun H locs hP hS => ?_)
          have hR := hR0.at hS
          have hpx := hpr (-tn * zP k)
          have hb3 := z_mulb (a := t % p) (b := pw (-tn * zP k % n)) (A := 10000) (B := 10000) (by omega) (by omega) (by omega) (by omega)
          refine z_i2l hx hb dX4_byBluestein_170 (by omega) ?_
          refine z_lmul hx hb dX4_byBluestein_171 ?_
          have hRc := z_subR (ws := [(qm, .inl (cI, 64, .inl (zA md2))), (ql, .inl (cI, 64, .inl (zA ln2))), (qc, .inl (cI, 128, .inl (zA cp2))), (he, .inl (cI, 64, .inl (zA g)))]) (rs := [(h0, .inr (3, [.ref qm, .ref qg, .ref ql, .ref qs, .ref qc])), (h1, .inr (1, [.int (zI p), .int (zI n), .int (zI iv), .int (zI wy), .int (zI gn), .ref hw])), (hw, .inl (cI, 64, .inl (zA pw)))]) (rc := [(h1, .inr (1, [.int (zI p), .int (zI n), .int (zI iv), .int (zI wy), .int (zI gn), .ref hw]))]) hP hR (isR := [5]) rfl
          refine z_ro (ws := [(qm, .inl (cI, 64, .inl (zA md2))), (ql, .inl (cI, 64, .inl (zA ln2))), (qc, .inl (cI, 128, .inl (zA cp2))), (he, .inl (cI, 64, .inl (zA g)))]) (va_runV (As := [.long (zL ((t % p) * (pw (((-tn) * (zP k)) % n))))]) (rest := [.int (zI k), .ref qm]) CF (c_X2_remainder l D h1 p n iv wy gn hw ((t % p) * (pw (((-tn) * (zP k)) % n))) (by omega) (by omega) H.size) (cwV 1 hts gX4_byBluestein_X2_remainder rfl rfl rfl (by decide +kernel) ⟨Nat.le_of_ble_eq_true rfl, Nat.le_of_ble_eq_true rfl⟩) (z_preV (va_recv hK hR (ci := 1) (q0 := 1) rfl rfl) z_nilP (z_nilD (A := A)) hRc z_noX (hK.sub (tys' := []) [] rfl)) rfl rfl hl.1 rfl (lv_room (Nat.le_of_ble_eq_true rfl)) dX4_byBluestein_172 ⟨Nat.le_of_ble_eq_true rfl, Nat.le_of_ble_eq_true rfl⟩) hP hS hA (cells' := 0) (slots' := 0) rfl rfl (fun H locs hP hS => ?_)
          have hR := hR0.at hS
          refine z_iast (cA := cI) (n := 64) (g := md2) (i := k) (v := ((t % p) * (pw (((-tn) * (zP k)) % n))) % p) hx hb hK hP hD hS 0 0 rfl rfl rfl (by omega) dX4_byBluestein_175 (fun H locs hP hD hS => ?_)
          have hP : va_P D vwCl [(qm, .inl (cI, 64, .inl (zA (zU md2 k (((t % p) * (pw (((-tn) * (zP k)) % n))) % p))))), (ql, .inl (cI, 64, .inl (zA ln2))), (qc, .inl (cI, 128, .inl (zA cp2))), (he, .inl (cI, 64, .inl (zA g)))] H := hP
          have hD : va_D A [(qm, .inl (cI, 64, .inl (zA (zU md2 k (((t % p) * (pw (((-tn) * (zP k)) % n))) % p))))), (ql, .inl (cI, 64, .inl (zA ln2))), (qc, .inl (cI, 128, .inl (zA cp2))), (he, .inl (cI, 64, .inl (zA g)))] := hD
          have hR := hR0.at hS
          refine lv_iinc (v := zI (k + 1)) (lv' := [(5, .int (zI (k + 1))), (0, .ref h0), (1, .ref h1), (2, .ref he), (3, .int (zI tn)), (4, .int (zI n)), (6, .long (zL t)), (8, .int (zI i))]) hx hb dX4_byBluestein_176 hl (k := 5) rfl (zI_add _ _) (by decide) rfl (fun ls hl => ?_)
          have hl := lv_sub hl [1, 2, 3, 4, 5, 0, 6, 7] rfl
          have hl : lv_has ls 9 [(0, .ref h0), (1, .ref h1), (2, .ref he), (3, .int (zI tn)), (4, .int (zI n)), (5, .int (zI (k + 1))), (6, .long (zL t)), (8, .int (zI i))] := hl
          refine lv_goto (tgt := 93) hx hb dX4_byBluestein_179 (by decide) ?_
          exact ih_93 (k + 1, zU md2 k (((t % p) * (pw (((-tn) * (zP k)) % n))) % p)) _ _ _ ⟨(by omega), (by exact zU_fill hmd (by rw [ht_, show i = n by omega]; exact blue hC (by omega) hln' hc')), hP, hD, hS, lv_sub hl [0, 1, 2, 3, 4, 5] rfl⟩ (by show (n - (k + 1)).toNat < (n - k).toNat; omega)
        · have hl1 := hln' i (by omega) (by omega)
          have hl2 := z_rem (a := g i * pw (-tn * zP i % n)) (n := p) (by omega)
          rw [← hl1] at hl2
          have hl3 := hc' (i + k) (by omega) (by omega)
          have hl4 := hpr (tn * zP (i + k))
          rw [← hl3] at hl4
          have hb3 := z_mulb (a := ln2 i) (b := cp2 (i + k)) (A := 10000) (B := 10000) (by omega) (by omega) (by omega) (by omega)
          refine lv_lload hx hb dX4_byBluestein_113 (lv_at hl 6 rfl) ?_
          refine lv_aload_n hx hb dX4_byBluestein_115 rfl (lv_at hl 0 rfl) ?_
          refine va_get (D := D) (ci := 3) (C := RX4) (T := TX4) (N := 5) hx hb hts hi4 hown hK hR 0 rfl rfl 2 (by decide) (hts (.fieldLink RX4 18 "ButterflyYard$Transformer" "line" "[I") (by decide +kernel)) (fun _ h9 => h9) rfl dX4_byBluestein_116 ?_
          refine lv_iload hx hb dX4_byBluestein_119 (lv_at hl 7 rfl) ?_
          refine z_iald (cA := cI) (n := 64) (g := ln2) hx hb hK hP 1 0 rfl rfl rfl (by omega) dX4_byBluestein_121 ?_
          refine z_i2l hx hb dX4_byBluestein_122 (by omega) ?_
          refine lv_aload_n hx hb dX4_byBluestein_123 rfl (lv_at hl 0 rfl) ?_
          refine va_get (D := D) (ci := 3) (C := RX4) (T := TX4) (N := 5) hx hb hts hi4 hown hK hR 0 rfl rfl 4 (by decide) (hts (.fieldLink RX4 24 "ButterflyYard$Transformer" "chirps" "[I") (by decide +kernel)) (fun _ h9 => h9) rfl dX4_byBluestein_124 ?_
          refine lv_iload hx hb dX4_byBluestein_127 (lv_at hl 7 rfl) ?_
          refine lv_iload hx hb dX4_byBluestein_129 (lv_at hl 5 rfl) ?_
          refine z_iadd hx hb dX4_byBluestein_131 ?_
          refine z_iald (cA := cI) (n := 128) (g := cp2) hx hb hK hP 2 0 rfl rfl rfl (by omega) dX4_byBluestein_132 ?_
          refine z_i2l hx hb dX4_byBluestein_133 (by omega) ?_
          refine z_lmul hx hb dX4_byBluestein_134 ?_
          refine z_ladd hx hb dX4_byBluestein_135 ?_
          refine lv_lstore (lv' := [(6, .long (zL (t + ((ln2 i) * (cp2 (i + k)))))), (0, .ref h0), (1, .ref h1), (2, .ref he), (3, .int (zI tn)), (4, .int (zI n)), (5, .int (zI k)), (8, .int (zI i))]) hx hb dX4_byBluestein_136 hl (by decide) rfl (fun ls hl => ?_)
          have hl := lv_sub hl [1, 2, 3, 4, 5, 6, 0, 7] rfl
          have hl : lv_has ls 9 [(0, .ref h0), (1, .ref h1), (2, .ref he), (3, .int (zI tn)), (4, .int (zI n)), (5, .int (zI k)), (6, .long (zL (t + ((ln2 i) * (cp2 (i + k)))))), (8, .int (zI i))] := hl
          refine lv_iinc (v := zI (i + 1)) (lv' := [(8, .int (zI (i + 1))), (0, .ref h0), (1, .ref h1), (2, .ref he), (3, .int (zI tn)), (4, .int (zI n)), (5, .int (zI k)), (6, .long (zL (t + ((ln2 i) * (cp2 (i + k))))))]) hx hb dX4_byBluestein_138 hl (k := 7) rfl (zI_add _ _) (by decide) rfl (fun ls hl => ?_)
          have hl := lv_sub hl [1, 2, 3, 4, 5, 6, 7, 0] rfl
          have hl : lv_has ls 9 [(0, .ref h0), (1, .ref h1), (2, .ref he), (3, .int (zI tn)), (4, .int (zI n)), (5, .int (zI k)), (6, .long (zL (t + ((ln2 i) * (cp2 (i + k)))))), (8, .int (zI (i + 1)))] := hl
          refine lv_goto (tgt := 106) hx hb dX4_byBluestein_141 (by decide) ?_
          exact ih_106 (t + ((ln2 i) * (cp2 (i + k))), i + 1) _ _ _ ⟨(by omega), (by rw [ht_, zT_s _ hi_.1]), (by omega), hP, hD, hS, hl⟩ (by show (n - (i + 1)).toNat < (n - i).toNat; omega)
    · refine lv_aload_n hx hb dX4_byBluestein_54 rfl (lv_at hl 0 rfl) ?_
      refine va_get (D := D) (ci := 3) (C := RX4) (T := TX4) (N := 5) hx hb hts hi4 hown hK hR 0 rfl rfl 2 (by decide) (hts (.fieldLink RX4 18 "ButterflyYard$Transformer" "line" "[I") (by decide +kernel)) (fun _ h9 => h9) rfl dX4_byBluestein_55 ?_
      refine lv_iload hx hb dX4_byBluestein_58 (lv_at hl 5 rfl) ?_
      refine lv_aload_n hx hb dX4_byBluestein_60 rfl (lv_at hl 1 rfl) ?_
      refine lv_aload_n hx hb dX4_byBluestein_61 rfl (lv_at hl 2 rfl) ?_
      refine lv_iload hx hb dX4_byBluestein_62 (lv_at hl 5 rfl) ?_
      refine z_iald (cA := cI) (n := 64) (g := g) hx hb hK hP 3 0 rfl rfl rfl (by omega) dX4_byBluestein_64 ?_
      have hgi := hg j (by omega) (by omega)
      refine z_i2l hx hb dX4_byBluestein_65 (by omega) ?_
      refine lv_aload_n hx hb dX4_byBluestein_66 rfl (lv_at hl 1 rfl) ?_
      refine lv_iload_n hx hb dX4_byBluestein_67 rfl (lv_at hl 3 rfl) ?_
      refine z_ineg hx hb dX4_byBluestein_68 ?_
      refine lv_iload hx hb dX4_byBluestein_69 (lv_at hl 5 rfl) ?_
      have hRc : va_P D vwCl [] H := z_nilP
      refine z_ro (ws := [(qm, .inl (cI, 64, .inl (zA md))), (ql, .inl (cI, 64, .inl (zA ln2))), (qc, .inl (cI, 128, .inl (zA cp2))), (he, .inl (cI, 64, .inl (zA g)))]) (va_runS (As := [.int (zI j)]) (rest := [.int (zI (-tn)), .ref h1, .long (zL (g j)), .ref h1, .int (zI j), .ref ql]) CF (c_X4_pairs l D j (by omega) H.size) (va_cwS 1 hts gX4_byBluestein_X4_pairs rfl rfl rfl (by decide +kernel) ⟨Nat.le_of_ble_eq_true rfl, Nat.le_of_ble_eq_true rfl⟩) (z_preS z_nilP (z_nilD (A := A)) hRc z_noX (hK.sub (tys' := []) [] rfl)) rfl rfl hl.1 rfl (lv_room (Nat.le_of_ble_eq_true rfl)) dX4_byBluestein_71 ⟨Nat.le_of_ble_eq_true rfl, Nat.le_of_ble_eq_true rfl⟩) hP hS hA (cells' := 0) (slots' := 0) rfl rfl (fun H locs hP hS => ?_)
      have hR := hR0.at hS
      have hp1 := zP_rng (x := j) (M := 128) (by omega)
      have hb1 := z_mulb (a := tn) (b := zP j) (A := 64) (B := 16384) (by omega) (by omega) (by omega) (by omega)
      have hb2 : -tn * zP j = -(tn * zP j) := Int.neg_mul _ _
      refine z_imul hx hb dX4_byBluestein_74 ?_
      have hRc := z_subR (ws := [(qm, .inl (cI, 64, .inl (zA md))), (ql, .inl (cI, 64, .inl (zA ln2))), (qc, .inl (cI, 128, .inl (zA cp2))), (he, .inl (cI, 64, .inl (zA g)))]) (rs := [(h0, .inr (3, [.ref qm, .ref qg, .ref ql, .ref qs, .ref qc])), (h1, .inr (1, [.int (zI p), .int (zI n), .int (zI iv), .int (zI wy), .int (zI gn), .ref hw])), (hw, .inl (cI, 64, .inl (zA pw)))]) (rc := [(h1, .inr (1, [.int (zI p), .int (zI n), .int (zI iv), .int (zI wy), .int (zI gn), .ref hw])), (hw, .inl (cI, 64, .inl (zA pw)))]) hP hR (isR := [5, 6]) rfl
      refine z_ro (ws := [(qm, .inl (cI, 64, .inl (zA md))), (ql, .inl (cI, 64, .inl (zA ln2))), (qc, .inl (cI, 128, .inl (zA cp2))), (he, .inl (cI, 64, .inl (zA g)))]) (va_runV (As := [.int (zI ((-tn) * (zP j)))]) (rest := [.long (zL (g j)), .ref h1, .int (zI j), .ref ql]) CF (c_X2_power l D cI h1 p n iv wy gn hw pw ((-tn) * (zP j)) (by omega) (by omega) H.size) (cwV 1 hts gX4_byBluestein_X2_power rfl rfl rfl (by decide +kernel) ⟨Nat.le_of_ble_eq_true rfl, Nat.le_of_ble_eq_true rfl⟩) (z_preV (va_recv hK hR (ci := 1) (q0 := 1) rfl rfl) z_nilP (z_nilD (A := A)) hRc z_noX (hK.sub (tys' := [(cI, .int)]) [0] rfl)) rfl rfl hl.1 rfl (lv_room (Nat.le_of_ble_eq_true rfl)) dX4_byBluestein_75 ⟨Nat.le_of_ble_eq_true rfl, Nat.le_of_ble_eq_true rfl⟩) hP hS hA (cells' := 0) (slots' := 0) rfl rfl (fun H locs hP hS => ?_)
      have hR := hR0.at hS
      have hgi := hg j (by omega) (by omega)
      have hpx := hpr (-tn * zP j)
      have hb3 := z_mulb (a := g j) (b := pw (-tn * zP j % n)) (A := 10000) (B := 10000) (by omega) (by omega) (by omega) (by omega)
      refine z_i2l hx hb dX4_byBluestein_78 (by omega) ?_
      refine z_lmul hx hb dX4_byBluestein_79 ?_
      have hRc := z_subR (ws := [(qm, .inl (cI, 64, .inl (zA md))), (ql, .inl (cI, 64, .inl (zA ln2))), (qc, .inl (cI, 128, .inl (zA cp2))), (he, .inl (cI, 64, .inl (zA g)))]) (rs := [(h0, .inr (3, [.ref qm, .ref qg, .ref ql, .ref qs, .ref qc])), (h1, .inr (1, [.int (zI p), .int (zI n), .int (zI iv), .int (zI wy), .int (zI gn), .ref hw])), (hw, .inl (cI, 64, .inl (zA pw)))]) (rc := [(h1, .inr (1, [.int (zI p), .int (zI n), .int (zI iv), .int (zI wy), .int (zI gn), .ref hw]))]) hP hR (isR := [5]) rfl
      refine z_ro (ws := [(qm, .inl (cI, 64, .inl (zA md))), (ql, .inl (cI, 64, .inl (zA ln2))), (qc, .inl (cI, 128, .inl (zA cp2))), (he, .inl (cI, 64, .inl (zA g)))]) (va_runV (As := [.long (zL ((g j) * (pw (((-tn) * (zP j)) % n))))]) (rest := [.int (zI j), .ref ql]) CF (c_X2_remainder l D h1 p n iv wy gn hw ((g j) * (pw (((-tn) * (zP j)) % n))) (by omega) (by omega) H.size) (cwV 1 hts gX4_byBluestein_X2_remainder rfl rfl rfl (by decide +kernel) ⟨Nat.le_of_ble_eq_true rfl, Nat.le_of_ble_eq_true rfl⟩) (z_preV (va_recv hK hR (ci := 1) (q0 := 1) rfl rfl) z_nilP (z_nilD (A := A)) hRc z_noX (hK.sub (tys' := []) [] rfl)) rfl rfl hl.1 rfl (lv_room (Nat.le_of_ble_eq_true rfl)) dX4_byBluestein_80 ⟨Nat.le_of_ble_eq_true rfl, Nat.le_of_ble_eq_true rfl⟩) hP hS hA (cells' := 0) (slots' := 0) rfl rfl (fun H locs hP hS => ?_)
      have hR := hR0.at hS
      refine z_iast (cA := cI) (n := 64) (g := ln2) (i := j) (v := ((g j) * (pw (((-tn) * (zP j)) % n))) % p) hx hb hK hP hD hS 1 0 rfl rfl rfl (by omega) dX4_byBluestein_83 (fun H locs hP hD hS => ?_)
      have hP : va_P D vwCl [(qm, .inl (cI, 64, .inl (zA md))), (ql, .inl (cI, 64, .inl (zA (zU ln2 j (((g j) * (pw (((-tn) * (zP j)) % n))) % p))))), (qc, .inl (cI, 128, .inl (zA cp2))), (he, .inl (cI, 64, .inl (zA g)))] H := hP
      have hD : va_D A [(qm, .inl (cI, 64, .inl (zA md))), (ql, .inl (cI, 64, .inl (zA (zU ln2 j (((g j) * (pw (((-tn) * (zP j)) % n))) % p))))), (qc, .inl (cI, 128, .inl (zA cp2))), (he, .inl (cI, 64, .inl (zA g)))] := hD
      have hR := hR0.at hS
      refine lv_iinc (v := zI (j + 1)) (lv' := [(5, .int (zI (j + 1))), (0, .ref h0), (1, .ref h1), (2, .ref he), (3, .int (zI tn)), (4, .int (zI n))]) hx hb dX4_byBluestein_84 hl (k := 5) rfl (zI_add _ _) (by decide) rfl (fun ls hl => ?_)
      have hl := lv_sub hl [1, 2, 3, 4, 5, 0] rfl
      have hl : lv_has ls 9 [(0, .ref h0), (1, .ref h1), (2, .ref he), (3, .int (zI tn)), (4, .int (zI n)), (5, .int (zI (j + 1)))] := hl
      refine lv_goto (tgt := 47) hx hb dX4_byBluestein_87 (by decide) ?_
      exact ih_47 (j + 1, zU ln2 j (((g j) * (pw (((-tn) * (zP j)) % n))) % p)) _ _ _ ⟨(by omega), (by exact zU_fill hln rfl), hP, hD, hS, hl⟩ (by show (n - (j + 1)).toNat < (n - j).toNat; omega)
  · refine lv_aload_n hx hb dX4_byBluestein_20 rfl (lv_at hl 0 rfl) ?_
    refine va_get (D := D) (ci := 3) (C := RX4) (T := TX4) (N := 5) hx hb hts hi4 hown hK hR 0 rfl rfl 4 (by decide) (hts (.fieldLink RX4 24 "ButterflyYard$Transformer" "chirps" "[I") (by decide +kernel)) (fun _ h9 => h9) rfl dX4_byBluestein_21 ?_
    refine lv_iload hx hb dX4_byBluestein_24 (lv_at hl 5 rfl) ?_
    refine lv_aload_n hx hb dX4_byBluestein_26 rfl (lv_at hl 1 rfl) ?_
    refine lv_iload_n hx hb dX4_byBluestein_27 rfl (lv_at hl 3 rfl) ?_
    refine lv_iload hx hb dX4_byBluestein_28 (lv_at hl 5 rfl) ?_
    have hRc : va_P D vwCl [] H := z_nilP
    refine z_ro (ws := [(qm, .inl (cI, 64, .inl (zA md))), (ql, .inl (cI, 64, .inl (zA ln))), (qc, .inl (cI, 128, .inl (zA cp2))), (he, .inl (cI, 64, .inl (zA g)))]) (va_runS (As := [.int (zI x)]) (rest := [.int (zI tn), .ref h1, .int (zI x), .ref qc]) CF (c_X4_pairs l D x (by omega) H.size) (va_cwS 1 hts gX4_byBluestein_X4_pairs rfl rfl rfl (by decide +kernel) ⟨Nat.le_of_ble_eq_true rfl, Nat.le_of_ble_eq_true rfl⟩) (z_preS z_nilP (z_nilD (A := A)) hRc z_noX (hK.sub (tys' := []) [] rfl)) rfl rfl hl.1 rfl (lv_room (Nat.le_of_ble_eq_true rfl)) dX4_byBluestein_30 ⟨Nat.le_of_ble_eq_true rfl, Nat.le_of_ble_eq_true rfl⟩) hP hS hA (cells' := 0) (slots' := 0) rfl rfl (fun H locs hP hS => ?_)
    have hR := hR0.at hS
    have hp1 := zP_rng (x := x) (M := 128) (by omega)
    have hb1 := z_mulb (a := tn) (b := zP x) (A := 64) (B := 16384) (by omega) (by omega) (by omega) (by omega)
    refine z_imul hx hb dX4_byBluestein_33 ?_
    have hRc := z_subR (ws := [(qm, .inl (cI, 64, .inl (zA md))), (ql, .inl (cI, 64, .inl (zA ln))), (qc, .inl (cI, 128, .inl (zA cp2))), (he, .inl (cI, 64, .inl (zA g)))]) (rs := [(h0, .inr (3, [.ref qm, .ref qg, .ref ql, .ref qs, .ref qc])), (h1, .inr (1, [.int (zI p), .int (zI n), .int (zI iv), .int (zI wy), .int (zI gn), .ref hw])), (hw, .inl (cI, 64, .inl (zA pw)))]) (rc := [(h1, .inr (1, [.int (zI p), .int (zI n), .int (zI iv), .int (zI wy), .int (zI gn), .ref hw])), (hw, .inl (cI, 64, .inl (zA pw)))]) hP hR (isR := [5, 6]) rfl
    refine z_ro (ws := [(qm, .inl (cI, 64, .inl (zA md))), (ql, .inl (cI, 64, .inl (zA ln))), (qc, .inl (cI, 128, .inl (zA cp2))), (he, .inl (cI, 64, .inl (zA g)))]) (va_runV (As := [.int (zI (tn * (zP x)))]) (rest := [.int (zI x), .ref qc]) CF (c_X2_power l D cI h1 p n iv wy gn hw pw (tn * (zP x)) (by omega) (by omega) H.size) (cwV 1 hts gX4_byBluestein_X2_power rfl rfl rfl (by decide +kernel) ⟨Nat.le_of_ble_eq_true rfl, Nat.le_of_ble_eq_true rfl⟩) (z_preV (va_recv hK hR (ci := 1) (q0 := 1) rfl rfl) z_nilP (z_nilD (A := A)) hRc z_noX (hK.sub (tys' := [(cI, .int)]) [0] rfl)) rfl rfl hl.1 rfl (lv_room (Nat.le_of_ble_eq_true rfl)) dX4_byBluestein_34 ⟨Nat.le_of_ble_eq_true rfl, Nat.le_of_ble_eq_true rfl⟩) hP hS hA (cells' := 0) (slots' := 0) rfl rfl (fun H locs hP hS => ?_)
    have hR := hR0.at hS
    refine z_iast (cA := cI) (n := 128) (g := cp2) (i := x) (v := pw ((tn * (zP x)) % n)) hx hb hK hP hD hS 2 0 rfl rfl rfl (by omega) dX4_byBluestein_37 (fun H locs hP hD hS => ?_)
    have hP : va_P D vwCl [(qm, .inl (cI, 64, .inl (zA md))), (ql, .inl (cI, 64, .inl (zA ln))), (qc, .inl (cI, 128, .inl (zA (zU cp2 x (pw ((tn * (zP x)) % n)))))), (he, .inl (cI, 64, .inl (zA g)))] H := hP
    have hD : va_D A [(qm, .inl (cI, 64, .inl (zA md))), (ql, .inl (cI, 64, .inl (zA ln))), (qc, .inl (cI, 128, .inl (zA (zU cp2 x (pw ((tn * (zP x)) % n)))))), (he, .inl (cI, 64, .inl (zA g)))] := hD
    have hR := hR0.at hS
    refine lv_iinc (v := zI (x + 1)) (lv' := [(5, .int (zI (x + 1))), (0, .ref h0), (1, .ref h1), (2, .ref he), (3, .int (zI tn)), (4, .int (zI n))]) hx hb dX4_byBluestein_38 hl (k := 5) rfl (zI_add _ _) (by decide) rfl (fun ls hl => ?_)
    have hl := lv_sub hl [1, 2, 3, 4, 5, 0] rfl
    have hl : lv_has ls 9 [(0, .ref h0), (1, .ref h1), (2, .ref he), (3, .int (zI tn)), (4, .int (zI n)), (5, .int (zI (x + 1)))] := hl
    refine lv_goto (tgt := 9) hx hb dX4_byBluestein_41 (by decide) ?_
    exact ih_9 (x + 1, zU cp2 x (pw ((tn * (zP x)) % n))) _ _ _ ⟨(by omega), (by exact zU_fill hc rfl), hP, hD, hS, hl⟩ (by show (2 * n - 1 - (x + 1)).toNat < (2 * n - 1 - x).toNat; omega)

set_option maxHeartbeats 4000000 in
set_option maxRecDepth 100000 in
theorem c_X4_byRader (l : Launch) (D : va_G) (cI : ClassId) (h0 : Nat) (qm : Nat) (qg : Nat) (ql : Nat) (qs : Nat) (qc : Nat) (h1 : Nat) (p : Int) (n : Int) (iv : Int) (wy : Int) (gn : Int) (hw : Nat) (pw : Int → Int) (he : Nat) (g : Int → Int) (tn : Int) (md : Int → Int) (ln : Int → Int) (sg : Int → Int) (cp : Int → Int) (hC : zCH p n pw) (hG : zGN n gn) (hg : ∀ j, 0 ≤ j → j < n → 0 ≤ g j ∧ g j < p) (ht : 0 ≤ tn ∧ tn ≤ 64) : zC l yX4_byRader wsX4_byRader ({ frames := 2, cells := 0, slots := 0, locals := 48 } : Room) D [(cI, .int)] [(qm, .inl (cI, 64, .inl (zA md))), (ql, .inl (cI, 64, .inl (zA ln))), (qs, .inl (cI, 64, .inl (zA sg))), (qc, .inl (cI, 128, .inl (zA cp))), (he, .inl (cI, 64, .inl (zA g)))] [(h0, .inr (3, [.ref qm, .ref qg, .ref ql, .ref qs, .ref qc])), (h1, .inr (1, [.int (zI p), .int (zI n), .int (zI iv), .int (zI wy), .int (zI gn), .ref hw])), (hw, .inl (cI, 64, .inl (zA pw)))] [.ref h0, .ref h1, .ref he, .int (zI tn)] (S := (Int → Int) × (Int → Int) × (Int → Int) × (Int → Int) × (Int → Int)) (fun (md2, ln2, sg2, cp2, g2) => ∀ k, 0 ≤ k → k < n → g2 k = dft p n pw n tn g k) (fun (md2, ln2, sg2, cp2, g2) => none) (fun (md2, ln2, sg2, cp2, g2) => [(qm, .inl (cI, 64, .inl (zA md2))), (ql, .inl (cI, 64, .inl (zA ln2))), (qs, .inl (cI, 64, .inl (zA sg2))), (qc, .inl (cI, 128, .inl (zA cp2))), (he, .inl (cI, 64, .inl (zA g2)))]) := by
  have hnp : 1 ≤ n ∧ n ≤ 64 ∧ 2 ≤ p ∧ p ≤ 10000 := ⟨hC.1, hC.2.1, hC.2.2.1, hC.2.2.2.1⟩
  have hpr := hC.2.2.2.2.1
  obtain ⟨hn3, -, hg1, hg2, hgr, -, hginj⟩ := id hG
  refine z_start (cc := cX4_byRader) (maxL := 11) (ret := none) (own := RX4) (by decide) rfl rfl (Nat.le_of_ble_eq_true rfl) [(0, .ref h0), (1, .ref h1), (2, .ref he), (3, .int (zI tn))] rfl ?_
  intro pp ee s mm below meth cc A H ls hx hb hr hml hts hown hlocks hin hK hA hP hD hS hR0 hR hl
  have CF : CallFix pp mm cc cX4_byRader 11 s ([.ref h0, .ref h1, .ref he, .int (zI tn)] : List Value).toArray wsX4_byRader RX4 := ⟨hx, hb, hml, hown, hts⟩
  have hi4 : ∀ w ∈ wsX40, w ∈ wsX4_byRader := by decide +kernel
  refine lv_aload_n hx hb dX4_byRader_0 rfl (lv_at hl 1 rfl) ?_
  have hRc := z_subR (ws := [(qm, .inl (cI, 64, .inl (zA md))), (ql, .inl (cI, 64, .inl (zA ln))), (qs, .inl (cI, 64, .inl (zA sg))), (qc, .inl (cI, 128, .inl (zA cp))), (he, .inl (cI, 64, .inl (zA g)))]) (rs := [(h0, .inr (3, [.ref qm, .ref qg, .ref ql, .ref qs, .ref qc])), (h1, .inr (1, [.int (zI p), .int (zI n), .int (zI iv), .int (zI wy), .int (zI gn), .ref hw])), (hw, .inl (cI, 64, .inl (zA pw)))]) (rc := [(h1, .inr (1, [.int (zI p), .int (zI n), .int (zI iv), .int (zI wy), .int (zI gn), .ref hw]))]) hP hR (isR := [6]) rfl
  refine z_ro (ws := [(qm, .inl (cI, 64, .inl (zA md))), (ql, .inl (cI, 64, .inl (zA ln))), (qs, .inl (cI, 64, .inl (zA sg))), (qc, .inl (cI, 128, .inl (zA cp))), (he, .inl (cI, 64, .inl (zA g)))]) (va_runV (As := []) (rest := []) CF (c_X2_size l D h1 p n iv wy gn hw H.size) (cwV 0 hts gX4_byRader_X2_size rfl rfl rfl (by decide +kernel) ⟨Nat.le_of_ble_eq_true rfl, Nat.le_of_ble_eq_true rfl⟩) (z_preV (va_recv hK hR (ci := 1) (q0 := 1) rfl rfl) z_nilP (z_nilD (A := A)) hRc z_noX (hK.sub (tys' := []) [] rfl)) rfl rfl hl.1 rfl (lv_room (Nat.le_of_ble_eq_true rfl)) dX4_byRader_1 ⟨Nat.le_of_ble_eq_true rfl, Nat.le_of_ble_eq_true rfl⟩) hP hS hA (cells' := 0) (slots' := 0) rfl rfl (fun H locs hP hS => ?_)
  have hR := hR0.at hS
  refine lv_istore (lv' := [(4, .int (zI n)), (0, .ref h0), (1, .ref h1), (2, .ref he), (3, .int (zI tn))]) hx hb dX4_byRader_4 hl (by decide) rfl (fun ls hl => ?_)
  have hl := lv_sub hl [1, 2, 3, 4, 0] rfl
  have hl : lv_has ls 11 [(0, .ref h0), (1, .ref h1), (2, .ref he), (3, .int (zI tn)), (4, .int (zI n))] := hl
  refine lv_iload hx hb dX4_byRader_6 (lv_at hl 4 rfl) ?_
  refine z_iconst hx hb dX4_byRader_8 ?_
  refine z_isub hx hb dX4_byRader_9 ?_
  refine lv_istore (lv' := [(5, .int (zI (n - 1))), (0, .ref h0), (1, .ref h1), (2, .ref he), (3, .int (zI tn)), (4, .int (zI n))]) hx hb dX4_byRader_10 hl (by decide) rfl (fun ls hl => ?_)
  have hl := lv_sub hl [1, 2, 3, 4, 5, 0] rfl
  have hl : lv_has ls 11 [(0, .ref h0), (1, .ref h1), (2, .ref he), (3, .int (zI tn)), (4, .int (zI n)), (5, .int (zI (n - 1)))] := hl
  refine lv_aload_n hx hb dX4_byRader_12 rfl (lv_at hl 0 rfl) ?_
  refine lv_aload_n hx hb dX4_byRader_13 rfl (lv_at hl 1 rfl) ?_
  refine lv_iload hx hb dX4_byRader_14 (lv_at hl 5 rfl) ?_
  have hRc := z_subR (ws := [(qm, .inl (cI, 64, .inl (zA md))), (ql, .inl (cI, 64, .inl (zA ln))), (qs, .inl (cI, 64, .inl (zA sg))), (qc, .inl (cI, 128, .inl (zA cp))), (he, .inl (cI, 64, .inl (zA g)))]) (rs := [(h0, .inr (3, [.ref qm, .ref qg, .ref ql, .ref qs, .ref qc])), (h1, .inr (1, [.int (zI p), .int (zI n), .int (zI iv), .int (zI wy), .int (zI gn), .ref hw])), (hw, .inl (cI, 64, .inl (zA pw)))]) (rc := [(h0, .inr (3, [.ref qm, .ref qg, .ref ql, .ref qs, .ref qc])), (h1, .inr (1, [.int (zI p), .int (zI n), .int (zI iv), .int (zI wy), .int (zI gn), .ref hw]))]) hP hR (isR := [5, 6]) rfl
  have hPc := hP.sub (ws' := [(qs, .inl (cI, 64, .inl (zA sg)))]) [2] rfl
  have hDc := hD.sub (ws' := [(qs, .inl (cI, 64, .inl (zA sg)))]) [2] (by decide) rfl
  refine z_mu (ws := [(qm, .inl (cI, 64, .inl (zA md))), (ql, .inl (cI, 64, .inl (zA ln))), (qs, .inl (cI, 64, .inl (zA sg))), (qc, .inl (cI, 128, .inl (zA cp))), (he, .inl (cI, 64, .inl (zA g)))]) (wc := [(qs, .inl (cI, 64, .inl (zA sg)))]) (wr := [(qm, .inl (cI, 64, .inl (zA md))), (ql, .inl (cI, 64, .inl (zA ln))), (qc, .inl (cI, 128, .inl (zA cp))), (he, .inl (cI, 64, .inl (zA g)))]) (va_runV (As := [.ref h1, .int (zI (n - 1))]) (rest := []) CF (c_X4_fillSeats l D cI h0 qm qg ql qs qc h1 p n iv wy gn hw sg (n - 1) (by omega) (by omega) (by omega) H.size) (cwV 2 hts gX4_byRader_X4_fillSeats rfl rfl rfl (by decide +kernel) ⟨Nat.le_of_ble_eq_true rfl, Nat.le_of_ble_eq_true rfl⟩) (z_preV (va_recv hK hR (ci := 3) (q0 := 0) rfl rfl) hPc hDc hRc (z_dis (ws := [(qm, .inl (cI, 64, .inl (zA md))), (ql, .inl (cI, 64, .inl (zA ln))), (qs, .inl (cI, 64, .inl (zA sg))), (qc, .inl (cI, 128, .inl (zA cp))), (he, .inl (cI, 64, .inl (zA g)))]) (rs := [(h0, .inr (3, [.ref qm, .ref qg, .ref ql, .ref qs, .ref qc])), (h1, .inr (1, [.int (zI p), .int (zI n), .int (zI iv), .int (zI wy), .int (zI gn), .ref hw])), (hw, .inl (cI, 64, .inl (zA pw)))]) (wc := [(qs, .inl (cI, 64, .inl (zA sg)))]) (rc := [(h0, .inr (3, [.ref qm, .ref qg, .ref ql, .ref qs, .ref qc])), (h1, .inr (1, [.int (zI p), .int (zI n), .int (zI iv), .int (zI wy), .int (zI gn), .ref hw]))]) hD hR0 (isC := [2]) (isR := [5, 6]) rfl rfl (by decide)) (hK.sub (tys' := [(cI, .int)]) [0] rfl)) rfl rfl hl.1 rfl (lv_room (Nat.le_of_ble_eq_true rfl)) dX4_byRader_16 ⟨Nat.le_of_ble_eq_true rfl, Nat.le_of_ble_eq_true rfl⟩) hP hD hS hA [2] [0, 1, 3, 4] rfl rfl (by decide) (by decide) (cells' := 0) (slots' := 0) rfl rfl (fun u_16 H locs hp_16 hP hD hS => ?_)
  revert hp_16 hP hD
  generalize u_16 = s2_16
  intro hp_16 hP hD
  have hp_16 : ∀ m, 0 ≤ m → m < (n - 1) → s2_16 m = pwm gn m n := hp_16
  have hP := hP.sub (ws' := [(qm, .inl (cI, 64, .inl (zA md))), (ql, .inl (cI, 64, .inl (zA ln))), (qs, .inl (cI, 64, .inl (zA s2_16))), (qc, .inl (cI, 128, .inl (zA cp))), (he, .inl (cI, 64, .inl (zA g)))]) [0, 1, 4, 2, 3] rfl
  have hD := hD.sub (ws' := [(qm, .inl (cI, 64, .inl (zA md))), (ql, .inl (cI, 64, .inl (zA ln))), (qs, .inl (cI, 64, .inl (zA s2_16))), (qc, .inl (cI, 128, .inl (zA cp))), (he, .inl (cI, 64, .inl (zA g)))]) [0, 1, 4, 2, 3] (by decide) rfl
  have hR := hR0.at hS
  refine lv_aload_n hx hb dX4_byRader_19 rfl (lv_at hl 2 rfl) ?_
  refine z_iconst hx hb dX4_byRader_20 ?_
  have hg0 := hg 0 (by omega) (by omega)
  refine z_iald (cA := cI) (n := 64) (g := g) hx hb hK hP 4 0 rfl rfl rfl (by omega) dX4_byRader_21 ?_
  refine z_i2l hx hb dX4_byRader_22 (by omega) ?_
  refine lv_lstore (lv' := [(6, .long (zL (g 0))), (0, .ref h0), (1, .ref h1), (2, .ref he), (3, .int (zI tn)), (4, .int (zI n)), (5, .int (zI (n - 1)))]) hx hb dX4_byRader_23 hl (by decide) rfl (fun ls hl => ?_)
  have hl := lv_sub hl [1, 2, 3, 4, 5, 6, 0] rfl
  have hl : lv_has ls 11 [(0, .ref h0), (1, .ref h1), (2, .ref he), (3, .int (zI tn)), (4, .int (zI n)), (5, .int (zI (n - 1))), (6, .long (zL (g 0)))] := hl
  refine z_iconst hx hb dX4_byRader_25 ?_
  refine lv_istore (lv' := [(8, .int (zI 0)), (0, .ref h0), (1, .ref h1), (2, .ref he), (3, .int (zI tn)), (4, .int (zI n)), (5, .int (zI (n - 1))), (6, .long (zL (g 0)))]) hx hb dX4_byRader_26 hl (by decide) rfl (fun ls hl => ?_)
  have hl := lv_sub hl [1, 2, 3, 4, 5, 6, 7, 0] rfl
  have hl : lv_has ls 11 [(0, .ref h0), (1, .ref h1), (2, .ref he), (3, .int (zI tn)), (4, .int (zI n)), (5, .int (zI (n - 1))), (6, .long (zL (g 0))), (8, .int (zI 0))] := hl
  refine z_loop (σ := Int × Int × (Int → Int) × (Int → Int)) (fun (t, m, ln2, cp2) => (n - 1 - m).toNat) (fun (t, m, ln2, cp2) H locs ls => (0 ≤ m ∧ m ≤ n - 1) ∧ t = g 0 + zT (fun x => g (pwm gn x n)) m ∧ (0 ≤ t ∧ t ≤ 10000 + m * 10000) ∧ (∀ y, 0 ≤ y → y < m → ln2 y = g (pwm gn y n)) ∧ (∀ y, 0 ≤ y → y < m → cp2 y = pw (tn * pwm gn (zOp (n - 1) y) n % n)) ∧ va_P D vwCl [(qm, .inl (cI, 64, .inl (zA md))), (ql, .inl (cI, 64, .inl (zA ln2))), (qs, .inl (cI, 64, .inl (zA s2_16))), (qc, .inl (cI, 128, .inl (zA cp2))), (he, .inl (cI, 64, .inl (zA g)))] H ∧ va_D A [(qm, .inl (cI, 64, .inl (zA md))), (ql, .inl (cI, 64, .inl (zA ln2))), (qs, .inl (cI, 64, .inl (zA s2_16))), (qc, .inl (cI, 128, .inl (zA cp2))), (he, .inl (cI, 64, .inl (zA g)))] ∧ va_S A s.heap H locs ∧ lv_has ls 11 [(0, .ref h0), (1, .ref h1), (2, .ref he), (3, .int (zI tn)), (4, .int (zI n)), (5, .int (zI (n - 1))), (6, .long (zL t)), (8, .int (zI m))]) (g 0, 0, ln, cp) ⟨(by omega), (by rw [zT_0]; omega), (by omega), (fun k h1 h2 => absurd h2 (by omega)), (fun k h1 h2 => absurd h2 (by omega)), hP, hD, hS, hl⟩ ?_
  intro ⟨t, m, ln2, cp2⟩ H locs ls hI ih_28
  obtain ⟨hm_, ht_, htr, hln, hcp, hP, hD, hS, hl⟩ := hI
  have hR := hR0.at hS
  refine lv_iload hx hb dX4_byRader_28 (lv_at hl 7 rfl) ?_
  refine lv_iload hx hb dX4_byRader_30 (lv_at hl 5 rfl) ?_
  refine z_icmp_ge (tgt := 95) hx hb dX4_byRader_32 (by decide) (by omega) (fun c_32 => ?_) (fun c_32 => ?_)
  · refine lv_aload_n hx hb dX4_byRader_95 rfl (lv_at hl 0 rfl) ?_
    refine va_get (D := D) (ci := 3) (C := RX4) (T := TX4) (N := 5) hx hb hts hi4 hown hK hR 0 rfl rfl 0 (by decide) (hts (.fieldLink RX4 9 "ButterflyYard$Transformer" "made" "[I") (by decide +kernel)) (fun _ h9 => h9) rfl dX4_byRader_96 ?_
    refine z_iconst hx hb dX4_byRader_99 ?_
    refine lv_aload_n hx hb dX4_byRader_100 rfl (lv_at hl 1 rfl) ?_
    refine lv_lload hx hb dX4_byRader_101 (lv_at hl 6 rfl) ?_
    have hRc := z_subR (ws := [(qm, .inl (cI, 64, .inl (zA md))), (ql, .inl (cI, 64, .inl (zA ln2))), (qs, .inl (cI, 64, .inl (zA s2_16))), (qc, .inl (cI, 128, .inl (zA cp2))), (he, .inl (cI, 64, .inl (zA g)))]) (rs := [(h0, .inr (3, [.ref qm, .ref qg, .ref ql, .ref qs, .ref qc])), (h1, .inr (1, [.int (zI p), .int (zI n), .int (zI iv), .int (zI wy), .int (zI gn), .ref hw])), (hw, .inl (cI, 64, .inl (zA pw)))]) (rc := [(h1, .inr (1, [.int (zI p), .int (zI n), .int (zI iv), .int (zI wy), .int (zI gn), .ref hw]))]) hP hR (isR := [6]) rfl
    refine z_ro (ws := [(qm, .inl (cI, 64, .inl (zA md))), (ql, .inl (cI, 64, .inl (zA ln2))), (qs, .inl (cI, 64, .inl (zA s2_16))), (qc, .inl (cI, 128, .inl (zA cp2))), (he, .inl (cI, 64, .inl (zA g)))]) (va_runV (As := [.long (zL t)]) (rest := [.int (zI 0), .ref qm]) CF (c_X2_remainder l D h1 p n iv wy gn hw t (by omega) (by omega) H.size) (cwV 1 hts gX4_byRader_X2_remainder rfl rfl rfl (by decide +kernel) ⟨Nat.le_of_ble_eq_true rfl, Nat.le_of_ble_eq_true rfl⟩) (z_preV (va_recv hK hR (ci := 1) (q0 := 1) rfl rfl) z_nilP (z_nilD (A := A)) hRc z_noX (hK.sub (tys' := []) [] rfl)) rfl rfl hl.1 rfl (lv_room (Nat.le_of_ble_eq_true rfl)) dX4_byRader_103 ⟨Nat.le_of_ble_eq_true rfl, Nat.le_of_ble_eq_true rfl⟩) hP hS hA (cells' := 0) (slots' := 0) rfl rfl (fun H locs hP hS => ?_)
    have hR := hR0.at hS
    refine z_iast (cA := cI) (n := 64) (g := md) (i := 0) (v := t % p) hx hb hK hP hD hS 0 0 rfl rfl rfl (by omega) dX4_byRader_106 (fun H locs hP hD hS => ?_)
    have hP : va_P D vwCl [(qm, .inl (cI, 64, .inl (zA (zU md 0 (t % p))))), (ql, .inl (cI, 64, .inl (zA ln2))), (qs, .inl (cI, 64, .inl (zA s2_16))), (qc, .inl (cI, 128, .inl (zA cp2))), (he, .inl (cI, 64, .inl (zA g)))] H := hP
    have hD : va_D A [(qm, .inl (cI, 64, .inl (zA (zU md 0 (t % p))))), (ql, .inl (cI, 64, .inl (zA ln2))), (qs, .inl (cI, 64, .inl (zA s2_16))), (qc, .inl (cI, 128, .inl (zA cp2))), (he, .inl (cI, 64, .inl (zA g)))] := hD
    have hR := hR0.at hS
    refine z_iconst hx hb dX4_byRader_107 ?_
    refine lv_istore (lv' := [(8, .int (zI 0)), (0, .ref h0), (1, .ref h1), (2, .ref he), (3, .int (zI tn)), (4, .int (zI n)), (5, .int (zI (n - 1))), (6, .long (zL t))]) hx hb dX4_byRader_108 hl (by decide) rfl (fun ls hl => ?_)
    have hl := lv_sub hl [1, 2, 3, 4, 5, 6, 7, 0] rfl
    have hl : lv_has ls 11 [(0, .ref h0), (1, .ref h1), (2, .ref he), (3, .int (zI tn)), (4, .int (zI n)), (5, .int (zI (n - 1))), (6, .long (zL t)), (8, .int (zI 0))] := hl
    refine z_loop (σ := Int × (Int → Int)) (fun (q, md2) => (n - 1 - q).toNat) (fun (q, md2) H locs ls => (0 ≤ q ∧ q ≤ n - 1) ∧ md2 0 = dft p n pw n tn g 0 ∧ (∀ y, 0 ≤ y → y < q → md2 (pwm gn (zOp (n - 1) y) n) = dft p n pw n tn g (pwm gn (zOp (n - 1) y) n)) ∧ va_P D vwCl [(qm, .inl (cI, 64, .inl (zA md2))), (ql, .inl (cI, 64, .inl (zA ln2))), (qs, .inl (cI, 64, .inl (zA s2_16))), (qc, .inl (cI, 128, .inl (zA cp2))), (he, .inl (cI, 64, .inl (zA g)))] H ∧ va_D A [(qm, .inl (cI, 64, .inl (zA md2))), (ql, .inl (cI, 64, .inl (zA ln2))), (qs, .inl (cI, 64, .inl (zA s2_16))), (qc, .inl (cI, 128, .inl (zA cp2))), (he, .inl (cI, 64, .inl (zA g)))] ∧ va_S A s.heap H locs ∧ lv_has ls 11 [(0, .ref h0), (1, .ref h1), (2, .ref he), (3, .int (zI tn)), (4, .int (zI n)), (5, .int (zI (n - 1))), (6, .long (zL t)), (8, .int (zI q))]) (0, zU md 0 (t % p)) ⟨(by omega), (by rw [zU_s, ht_, show m = n - 1 by omega]; exact rad_0 hC hG), (fun k h1 h2 => absurd h2 (by omega)), hP, hD, hS, hl⟩ ?_
    intro ⟨q, md2⟩ H locs ls hI ih_110
    obtain ⟨hq_, hm0, hmq, hP, hD, hS, hl⟩ := hI
    have hR := hR0.at hS
    have hln' : ∀ y, 0 ≤ y → y < n - 1 → ln2 y = g (pwm gn y n) := fun y h1 h2 => hln y h1 (by omega)
    have hcp' : ∀ y, 0 ≤ y → y < n - 1 → cp2 y = pw (tn * pwm gn (zOp (n - 1) y) n % n) := fun y h1 h2 => hcp y h1 (by omega)
    have hlr : ∀ y, 0 ≤ y → y < n - 1 → 0 ≤ ln2 y ∧ ln2 y ≤ 10000 := fun y h1 h2 => by have := hgr y; have := hg (pwm gn y n) (by omega) (by omega); rw [hln' y h1 h2]; omega
    have hcr : ∀ y, 0 ≤ y → y < n - 1 → 0 ≤ cp2 y ∧ cp2 y ≤ 10000 := fun y h1 h2 => by have := hpr (tn * pwm gn (zOp (n - 1) y) n); rw [hcp' y h1 h2]; omega
    refine lv_iload hx hb dX4_byRader_110 (lv_at hl 7 rfl) ?_
    refine lv_iload hx hb dX4_byRader_112 (lv_at hl 5 rfl) ?_
    refine z_icmp_ge (tgt := 168) hx hb dX4_byRader_114 (by decide) (by omega) (fun c_114 => ?_) (fun c_114 => ?_)
    · refine lv_aload_n hx hb dX4_byRader_168 rfl (lv_at hl 0 rfl) ?_
      refine lv_aload_n hx hb dX4_byRader_169 rfl (lv_at hl 2 rfl) ?_
      refine lv_iload hx hb dX4_byRader_170 (lv_at hl 4 rfl) ?_
      have hRc := z_subR (ws := [(qm, .inl (cI, 64, .inl (zA md2))), (ql, .inl (cI, 64, .inl (zA ln2))), (qs, .inl (cI, 64, .inl (zA s2_16))), (qc, .inl (cI, 128, .inl (zA cp2))), (he, .inl (cI, 64, .inl (zA g)))]) (rs := [(h0, .inr (3, [.ref qm, .ref qg, .ref ql, .ref qs, .ref qc])), (h1, .inr (1, [.int (zI p), .int (zI n), .int (zI iv), .int (zI wy), .int (zI gn), .ref hw])), (hw, .inl (cI, 64, .inl (zA pw)))]) (rc := [(h0, .inr (3, [.ref qm, .ref qg, .ref ql, .ref qs, .ref qc])), (qm, .inl (cI, 64, .inl (zA md2)))]) hP hR (isR := [5, 0]) rfl
      have hPc := hP.sub (ws' := [(he, .inl (cI, 64, .inl (zA g)))]) [4] rfl
      have hDc := hD.sub (ws' := [(he, .inl (cI, 64, .inl (zA g)))]) [4] (by decide) rfl
      refine z_mu (ws := [(qm, .inl (cI, 64, .inl (zA md2))), (ql, .inl (cI, 64, .inl (zA ln2))), (qs, .inl (cI, 64, .inl (zA s2_16))), (qc, .inl (cI, 128, .inl (zA cp2))), (he, .inl (cI, 64, .inl (zA g)))]) (wc := [(he, .inl (cI, 64, .inl (zA g)))]) (wr := [(qm, .inl (cI, 64, .inl (zA md2))), (ql, .inl (cI, 64, .inl (zA ln2))), (qs, .inl (cI, 64, .inl (zA s2_16))), (qc, .inl (cI, 128, .inl (zA cp2)))]) (va_runV (As := [.ref he, .int (zI n)]) (rest := []) CF (c_X4_copyMade l D cI h0 qm qg ql qs qc md2 he g n (by omega) H.size) (cwV 2 hts gX4_byRader_X4_copyMade rfl rfl rfl (by decide +kernel) ⟨Nat.le_of_ble_eq_true rfl, Nat.le_of_ble_eq_true rfl⟩) (z_preV (va_recv hK hR (ci := 3) (q0 := 0) rfl rfl) hPc hDc hRc (z_dis (ws := [(qm, .inl (cI, 64, .inl (zA md2))), (ql, .inl (cI, 64, .inl (zA ln2))), (qs, .inl (cI, 64, .inl (zA s2_16))), (qc, .inl (cI, 128, .inl (zA cp2))), (he, .inl (cI, 64, .inl (zA g)))]) (rs := [(h0, .inr (3, [.ref qm, .ref qg, .ref ql, .ref qs, .ref qc])), (h1, .inr (1, [.int (zI p), .int (zI n), .int (zI iv), .int (zI wy), .int (zI gn), .ref hw])), (hw, .inl (cI, 64, .inl (zA pw)))]) (wc := [(he, .inl (cI, 64, .inl (zA g)))]) (rc := [(h0, .inr (3, [.ref qm, .ref qg, .ref ql, .ref qs, .ref qc])), (qm, .inl (cI, 64, .inl (zA md2)))]) hD hR0 (isC := [4]) (isR := [5, 0]) rfl rfl (by decide)) (hK.sub (tys' := [(cI, .int)]) [0] rfl)) rfl rfl hl.1 rfl (lv_room (Nat.le_of_ble_eq_true rfl)) dX4_byRader_172 ⟨Nat.le_of_ble_eq_true rfl, Nat.le_of_ble_eq_true rfl⟩) hP hD hS hA [4] [0, 1, 2, 3] rfl rfl (by decide) (by decide) (cells' := 0) (slots' := 0) rfl rfl (fun u_172 H locs hp_172 hP hD hS => ?_)
      revert hp_172 hP hD
      generalize u_172 = g2_172
      intro hp_172 hP hD
      have hp_172 : ∀ k, 0 ≤ k → k < n → g2_172 k = md2 k := hp_172
      have hP := hP.sub (ws' := [(qm, .inl (cI, 64, .inl (zA md2))), (ql, .inl (cI, 64, .inl (zA ln2))), (qs, .inl (cI, 64, .inl (zA s2_16))), (qc, .inl (cI, 128, .inl (zA cp2))), (he, .inl (cI, 64, .inl (zA g2_172)))]) [0, 1, 2, 3, 4] rfl
      have hD := hD.sub (ws' := [(qm, .inl (cI, 64, .inl (zA md2))), (ql, .inl (cI, 64, .inl (zA ln2))), (qs, .inl (cI, 64, .inl (zA s2_16))), (qc, .inl (cI, 128, .inl (zA cp2))), (he, .inl (cI, 64, .inl (zA g2_172)))]) [0, 1, 2, 3, 4] (by decide) rfl
      have hR := hR0.at hS
      exact z_vret hx hb hr hlocks (md2, ln2, s2_16, cp2, g2_172) rfl (fun x h1 h2 => by show g2_172 x = _; rw [hp_172 x h1 h2]; rcases Int.lt_or_le x 1 with z | z; (rw [show x = 0 by omega]; exact hm0); (obtain ⟨y, a1, a2, a3⟩ := rad_onto hG (k := x) (by omega); rw [← a3]; exact hmq y a1 (by omega))) hP hD hS dX4_byRader_175
    · refine lv_aload_n hx hb dX4_byRader_117 rfl (lv_at hl 0 rfl) ?_
      refine va_get (D := D) (ci := 3) (C := RX4) (T := TX4) (N := 5) hx hb hts hi4 hown hK hR 0 rfl rfl 2 (by decide) (hts (.fieldLink RX4 18 "ButterflyYard$Transformer" "line" "[I") (by decide +kernel)) (fun _ h9 => h9) rfl dX4_byRader_118 ?_
      refine lv_aload_n hx hb dX4_byRader_121 rfl (lv_at hl 0 rfl) ?_
      refine va_get (D := D) (ci := 3) (C := RX4) (T := TX4) (N := 5) hx hb hts hi4 hown hK hR 0 rfl rfl 4 (by decide) (hts (.fieldLink RX4 24 "ButterflyYard$Transformer" "chirps" "[I") (by decide +kernel)) (fun _ h9 => h9) rfl dX4_byRader_122 ?_
      refine lv_iload hx hb dX4_byRader_125 (lv_at hl 5 rfl) ?_
      refine lv_iload hx hb dX4_byRader_127 (lv_at hl 7 rfl) ?_
      have hRc := z_subR (ws := [(qm, .inl (cI, 64, .inl (zA md2))), (ql, .inl (cI, 64, .inl (zA ln2))), (qs, .inl (cI, 64, .inl (zA s2_16))), (qc, .inl (cI, 128, .inl (zA cp2))), (he, .inl (cI, 64, .inl (zA g)))]) (rs := [(h0, .inr (3, [.ref qm, .ref qg, .ref ql, .ref qs, .ref qc])), (h1, .inr (1, [.int (zI p), .int (zI n), .int (zI iv), .int (zI wy), .int (zI gn), .ref hw])), (hw, .inl (cI, 64, .inl (zA pw)))]) (rc := [(ql, .inl (cI, 64, .inl (zA ln2))), (qc, .inl (cI, 128, .inl (zA cp2)))]) hP hR (isR := [1, 3]) rfl
      refine z_ro (ws := [(qm, .inl (cI, 64, .inl (zA md2))), (ql, .inl (cI, 64, .inl (zA ln2))), (qs, .inl (cI, 64, .inl (zA s2_16))), (qc, .inl (cI, 128, .inl (zA cp2))), (he, .inl (cI, 64, .inl (zA g)))]) (va_runS (As := [.ref ql, .ref qc, .int (zI (n - 1)), .int (zI q)]) (rest := []) CF (c_X0_cyclicEntry l D cI ql qc 128 ln2 cp2 (n - 1) q (by rfl) (by omega) (by omega) (by exact fun y h1 h2 => by have := hlr y h1 h2; omega) (by exact fun y h1 h2 => by have := hcr y h1 h2; omega) H.size) (va_cwS 4 hts gX4_byRader_X0_cyclicEntry rfl rfl rfl (by decide +kernel) ⟨Nat.le_of_ble_eq_true rfl, Nat.le_of_ble_eq_true rfl⟩) (z_preS z_nilP (z_nilD (A := A)) hRc z_noX (hK.sub (tys' := [(cI, .int)]) [0] rfl)) rfl rfl hl.1 rfl (lv_room (Nat.le_of_ble_eq_true rfl)) dX4_byRader_129 ⟨Nat.le_of_ble_eq_true rfl, Nat.le_of_ble_eq_true rfl⟩) hP hS hA (cells' := 0) (slots' := 0) rfl rfl (fun H locs hP hS => ?_)
      have hR := hR0.at hS
      refine z_nameL (fun tv e_tv => ?_)
      refine lv_lstore (lv' := [(9, .long (zL tv)), (0, .ref h0), (1, .ref h1), (2, .ref he), (3, .int (zI tn)), (4, .int (zI n)), (5, .int (zI (n - 1))), (6, .long (zL t)), (8, .int (zI q))]) hx hb dX4_byRader_132 hl (by decide) rfl (fun ls hl => ?_)
      have hl := lv_sub hl [1, 2, 3, 4, 5, 6, 7, 8, 0] rfl
      have hl : lv_has ls 11 [(0, .ref h0), (1, .ref h1), (2, .ref he), (3, .int (zI tn)), (4, .int (zI n)), (5, .int (zI (n - 1))), (6, .long (zL t)), (8, .int (zI q)), (9, .long (zL tv))] := hl
      refine lv_aload_n hx hb dX4_byRader_134 rfl (lv_at hl 0 rfl) ?_
      refine va_get (D := D) (ci := 3) (C := RX4) (T := TX4) (N := 5) hx hb hts hi4 hown hK hR 0 rfl rfl 0 (by decide) (hts (.fieldLink RX4 9 "ButterflyYard$Transformer" "made" "[I") (by decide +kernel)) (fun _ h9 => h9) rfl dX4_byRader_135 ?_
      refine lv_aload_n hx hb dX4_byRader_138 rfl (lv_at hl 0 rfl) ?_
      refine va_get (D := D) (ci := 3) (C := RX4) (T := TX4) (N := 5) hx hb hts hi4 hown hK hR 0 rfl rfl 3 (by decide) (hts (.fieldLink RX4 21 "ButterflyYard$Transformer" "seats" "[I") (by decide +kernel)) (fun _ h9 => h9) rfl dX4_byRader_139 ?_
      refine lv_iload hx hb dX4_byRader_142 (lv_at hl 7 rfl) ?_
      refine lv_iload hx hb dX4_byRader_144 (lv_at hl 5 rfl) ?_
      have hRc : va_P D vwCl [] H := z_nilP
      refine z_ro (ws := [(qm, .inl (cI, 64, .inl (zA md2))), (ql, .inl (cI, 64, .inl (zA ln2))), (qs, .inl (cI, 64, .inl (zA s2_16))), (qc, .inl (cI, 128, .inl (zA cp2))), (he, .inl (cI, 64, .inl (zA g)))]) (va_runS (As := [.int (zI q), .int (zI (n - 1))]) (rest := [.ref qs, .ref qm]) CF (c_X4_opposite l D q (n - 1) (by omega) (by omega) H.size) (va_cwS 2 hts gX4_byRader_X4_opposite rfl rfl rfl (by decide +kernel) ⟨Nat.le_of_ble_eq_true rfl, Nat.le_of_ble_eq_true rfl⟩) (z_preS z_nilP (z_nilD (A := A)) hRc z_noX (hK.sub (tys' := []) [] rfl)) rfl rfl hl.1 rfl (lv_room (Nat.le_of_ble_eq_true rfl)) dX4_byRader_146 ⟨Nat.le_of_ble_eq_true rfl, Nat.le_of_ble_eq_true rfl⟩) hP hS hA (cells' := 0) (slots' := 0) rfl rfl (fun H locs hP hS => ?_)
      have hR := hR0.at hS
      have hor := zOp_rng (r := n - 1) (m := q) (by omega) (by omega)
      have hso := (hp_16 (zOp (n - 1) q) (by omega) (by omega)).symm
      have hsr2 := hgr (zOp (n - 1) q)
      rw [hso] at hsr2
      have hg0 := hg 0 (by omega) (by omega)
      have hcy := zT_bound (n := n - 1) (B := 100000000) (by omega) (fun j h1 h2 => rad_b hlr hcr (q := q) h1 h2 (by omega))
      rw [← e_tv] at hcy
      refine z_iald (cA := cI) (n := 64) (g := s2_16) hx hb hK hP 2 0 rfl rfl rfl (by omega) dX4_byRader_149 ?_
      refine lv_aload_n hx hb dX4_byRader_150 rfl (lv_at hl 1 rfl) ?_
      refine lv_aload_n hx hb dX4_byRader_151 rfl (lv_at hl 2 rfl) ?_
      refine z_iconst hx hb dX4_byRader_152 ?_
      refine z_iald (cA := cI) (n := 64) (g := g) hx hb hK hP 4 0 rfl rfl rfl (by omega) dX4_byRader_153 ?_
      refine z_i2l hx hb dX4_byRader_154 (by omega) ?_
      refine lv_lload hx hb dX4_byRader_155 (lv_at hl 8 rfl) ?_
      refine z_ladd hx hb dX4_byRader_157 ?_
      have hV : (g 0 + tv) % p = (g 0 + zT (fun j => g (pwm gn j n) * pw (tn * pwm gn (zOp (n - 1) (if j ≤ q then q - j else q - j + (n - 1))) n % n)) (n - 1)) % p := by rw [e_tv, zT_congr (fun j h1 h2 => by rw [hln' j h1 h2, hcp' _ (by split <;> omega) (by split <;> omega)])]
      have hRc := z_subR (ws := [(qm, .inl (cI, 64, .inl (zA md2))), (ql, .inl (cI, 64, .inl (zA ln2))), (qs, .inl (cI, 64, .inl (zA s2_16))), (qc, .inl (cI, 128, .inl (zA cp2))), (he, .inl (cI, 64, .inl (zA g)))]) (rs := [(h0, .inr (3, [.ref qm, .ref qg, .ref ql, .ref qs, .ref qc])), (h1, .inr (1, [.int (zI p), .int (zI n), .int (zI iv), .int (zI wy), .int (zI gn), .ref hw])), (hw, .inl (cI, 64, .inl (zA pw)))]) (rc := [(h1, .inr (1, [.int (zI p), .int (zI n), .int (zI iv), .int (zI wy), .int (zI gn), .ref hw]))]) hP hR (isR := [6]) rfl
      refine z_ro (ws := [(qm, .inl (cI, 64, .inl (zA md2))), (ql, .inl (cI, 64, .inl (zA ln2))), (qs, .inl (cI, 64, .inl (zA s2_16))), (qc, .inl (cI, 128, .inl (zA cp2))), (he, .inl (cI, 64, .inl (zA g)))]) (va_runV (As := [.long (zL ((g 0) + tv))]) (rest := [.int (zI (s2_16 (zOp (n - 1) q))), .ref qm]) CF (c_X2_remainder l D h1 p n iv wy gn hw ((g 0) + tv) (by omega) (by omega) H.size) (cwV 1 hts gX4_byRader_X2_remainder rfl rfl rfl (by decide +kernel) ⟨Nat.le_of_ble_eq_true rfl, Nat.le_of_ble_eq_true rfl⟩) (z_preV (va_recv hK hR (ci := 1) (q0 := 1) rfl rfl) z_nilP (z_nilD (A := A)) hRc z_noX (hK.sub (tys' := []) [] rfl)) rfl rfl hl.1 rfl (lv_room (Nat.le_of_ble_eq_true rfl)) dX4_byRader_158 ⟨Nat.le_of_ble_eq_true rfl, Nat.le_of_ble_eq_true rfl⟩) hP hS hA (cells' := 0) (slots' := 0) rfl rfl (fun H locs hP hS => ?_)
      have hR := hR0.at hS
      refine z_iast (cA := cI) (n := 64) (g := md2) (i := s2_16 (zOp (n - 1) q)) (v := ((g 0) + tv) % p) hx hb hK hP hD hS 0 0 rfl rfl rfl (by omega) dX4_byRader_161 (fun H locs hP hD hS => ?_)
      have hP : va_P D vwCl [(qm, .inl (cI, 64, .inl (zA (zU md2 (s2_16 (zOp (n - 1) q)) (((g 0) + tv) % p))))), (ql, .inl (cI, 64, .inl (zA ln2))), (qs, .inl (cI, 64, .inl (zA s2_16))), (qc, .inl (cI, 128, .inl (zA cp2))), (he, .inl (cI, 64, .inl (zA g)))] H := hP
      have hD : va_D A [(qm, .inl (cI, 64, .inl (zA (zU md2 (s2_16 (zOp (n - 1) q)) (((g 0) + tv) % p))))), (ql, .inl (cI, 64, .inl (zA ln2))), (qs, .inl (cI, 64, .inl (zA s2_16))), (qc, .inl (cI, 128, .inl (zA cp2))), (he, .inl (cI, 64, .inl (zA g)))] := hD
      have hR := hR0.at hS
      refine lv_iinc (v := zI (q + 1)) (lv' := [(8, .int (zI (q + 1))), (0, .ref h0), (1, .ref h1), (2, .ref he), (3, .int (zI tn)), (4, .int (zI n)), (5, .int (zI (n - 1))), (6, .long (zL t)), (9, .long (zL tv))]) hx hb dX4_byRader_162 hl (k := 7) rfl (zI_add _ _) (by decide) rfl (fun ls hl => ?_)
      have hl := lv_sub hl [1, 2, 3, 4, 5, 6, 7, 0, 8] rfl
      have hl : lv_has ls 11 [(0, .ref h0), (1, .ref h1), (2, .ref he), (3, .int (zI tn)), (4, .int (zI n)), (5, .int (zI (n - 1))), (6, .long (zL t)), (8, .int (zI (q + 1))), (9, .long (zL tv))] := hl
      refine lv_goto (tgt := 110) hx hb dX4_byRader_165 (by decide) ?_
      exact ih_110 (q + 1, zU md2 (s2_16 (zOp (n - 1) q)) (((g 0) + tv) % p)) _ _ _ ⟨(by omega), (by rw [zU_n _ _ (by omega)]; exact hm0), (by exact fun y h1 h2 => by by_cases e : y = q; (subst e; rw [hso, zU_s, ← hso]; exact rad_q hC hG ⟨h1, by omega⟩ hV); (rw [zU_n _ _ (by rw [← hso]; exact fun z => e (zOp_inj h1 (by omega) hq_.1 (by omega) (hginj _ _ (zOp_rng h1 (by omega)).1 (zOp_rng h1 (by omega)).2 (zOp_rng hq_.1 (by omega)).1 (zOp_rng hq_.1 (by omega)).2 z)))]; exact hmq y h1 (by omega))), hP, hD, hS, lv_sub hl [0, 1, 2, 3, 4, 5, 6, 7] rfl⟩ (by show (n - 1 - (q + 1)).toNat < (n - 1 - q).toNat; omega)
  · refine lv_aload_n hx hb dX4_byRader_35 rfl (lv_at hl 0 rfl) ?_
    refine va_get (D := D) (ci := 3) (C := RX4) (T := TX4) (N := 5) hx hb hts hi4 hown hK hR 0 rfl rfl 2 (by decide) (hts (.fieldLink RX4 18 "ButterflyYard$Transformer" "line" "[I") (by decide +kernel)) (fun _ h9 => h9) rfl dX4_byRader_36 ?_
    refine lv_iload hx hb dX4_byRader_39 (lv_at hl 7 rfl) ?_
    refine lv_aload_n hx hb dX4_byRader_41 rfl (lv_at hl 2 rfl) ?_
    refine lv_aload_n hx hb dX4_byRader_42 rfl (lv_at hl 0 rfl) ?_
    refine va_get (D := D) (ci := 3) (C := RX4) (T := TX4) (N := 5) hx hb hts hi4 hown hK hR 0 rfl rfl 3 (by decide) (hts (.fieldLink RX4 21 "ButterflyYard$Transformer" "seats" "[I") (by decide +kernel)) (fun _ h9 => h9) rfl dX4_byRader_43 ?_
    refine lv_iload hx hb dX4_byRader_46 (lv_at hl 7 rfl) ?_
    have hse := hp_16 m (by omega) (by omega)
    have hsr := hgr m
    rw [← hse] at hsr
    have hgi := hg (s2_16 m) (by omega) (by omega)
    refine z_iald (cA := cI) (n := 64) (g := s2_16) hx hb hK hP 2 0 rfl rfl rfl (by omega) dX4_byRader_48 ?_
    refine z_iald (cA := cI) (n := 64) (g := g) hx hb hK hP 4 0 rfl rfl rfl (by omega) dX4_byRader_49 ?_
    refine z_iast (cA := cI) (n := 64) (g := ln2) (i := m) (v := g (s2_16 m)) hx hb hK hP hD hS 1 0 rfl rfl rfl (by omega) dX4_byRader_50 (fun H locs hP hD hS => ?_)
    have hP : va_P D vwCl [(qm, .inl (cI, 64, .inl (zA md))), (ql, .inl (cI, 64, .inl (zA (zU ln2 m (g (s2_16 m)))))), (qs, .inl (cI, 64, .inl (zA s2_16))), (qc, .inl (cI, 128, .inl (zA cp2))), (he, .inl (cI, 64, .inl (zA g)))] H := hP
    have hD : va_D A [(qm, .inl (cI, 64, .inl (zA md))), (ql, .inl (cI, 64, .inl (zA (zU ln2 m (g (s2_16 m)))))), (qs, .inl (cI, 64, .inl (zA s2_16))), (qc, .inl (cI, 128, .inl (zA cp2))), (he, .inl (cI, 64, .inl (zA g)))] := hD
    have hR := hR0.at hS
    refine lv_aload_n hx hb dX4_byRader_51 rfl (lv_at hl 0 rfl) ?_
    refine va_get (D := D) (ci := 3) (C := RX4) (T := TX4) (N := 5) hx hb hts hi4 hown hK hR 0 rfl rfl 4 (by decide) (hts (.fieldLink RX4 24 "ButterflyYard$Transformer" "chirps" "[I") (by decide +kernel)) (fun _ h9 => h9) rfl dX4_byRader_52 ?_
    refine lv_iload hx hb dX4_byRader_55 (lv_at hl 7 rfl) ?_
    refine lv_aload_n hx hb dX4_byRader_57 rfl (lv_at hl 1 rfl) ?_
    refine lv_iload_n hx hb dX4_byRader_58 rfl (lv_at hl 3 rfl) ?_
    refine lv_aload_n hx hb dX4_byRader_59 rfl (lv_at hl 0 rfl) ?_
    refine va_get (D := D) (ci := 3) (C := RX4) (T := TX4) (N := 5) hx hb hts hi4 hown hK hR 0 rfl rfl 3 (by decide) (hts (.fieldLink RX4 21 "ButterflyYard$Transformer" "seats" "[I") (by decide +kernel)) (fun _ h9 => h9) rfl dX4_byRader_60 ?_
    refine lv_iload hx hb dX4_byRader_63 (lv_at hl 7 rfl) ?_
    refine lv_iload hx hb dX4_byRader_65 (lv_at hl 5 rfl) ?_
    have hRc : va_P D vwCl [] H := z_nilP
    refine z_ro (ws := [(qm, .inl (cI, 64, .inl (zA md))), (ql, .inl (cI, 64, .inl (zA (zU ln2 m (g (s2_16 m)))))), (qs, .inl (cI, 64, .inl (zA s2_16))), (qc, .inl (cI, 128, .inl (zA cp2))), (he, .inl (cI, 64, .inl (zA g)))]) (va_runS (As := [.int (zI m), .int (zI (n - 1))]) (rest := [.ref qs, .int (zI tn), .ref h1, .int (zI m), .ref qc]) CF (c_X4_opposite l D m (n - 1) (by omega) (by omega) H.size) (va_cwS 2 hts gX4_byRader_X4_opposite rfl rfl rfl (by decide +kernel) ⟨Nat.le_of_ble_eq_true rfl, Nat.le_of_ble_eq_true rfl⟩) (z_preS z_nilP (z_nilD (A := A)) hRc z_noX (hK.sub (tys' := []) [] rfl)) rfl rfl hl.1 rfl (lv_room (Nat.le_of_ble_eq_true rfl)) dX4_byRader_67 ⟨Nat.le_of_ble_eq_true rfl, Nat.le_of_ble_eq_true rfl⟩) hP hS hA (cells' := 0) (slots' := 0) rfl rfl (fun H locs hP hS => ?_)
    have hR := hR0.at hS
    have hor := zOp_rng (r := n - 1) (m := m) (by omega) (by omega)
    have hso := hp_16 (zOp (n - 1) m) (by omega) (by omega)
    have hsr2 := hgr (zOp (n - 1) m)
    rw [← hso] at hsr2
    have hb1 := z_mulb (a := tn) (b := s2_16 (zOp (n - 1) m)) (A := 64) (B := 64) (by omega) (by omega) (by omega) (by omega)
    refine z_iald (cA := cI) (n := 64) (g := s2_16) hx hb hK hP 2 0 rfl rfl rfl (by omega) dX4_byRader_70 ?_
    refine z_imul hx hb dX4_byRader_71 ?_
    have hRc := z_subR (ws := [(qm, .inl (cI, 64, .inl (zA md))), (ql, .inl (cI, 64, .inl (zA (zU ln2 m (g (s2_16 m)))))), (qs, .inl (cI, 64, .inl (zA s2_16))), (qc, .inl (cI, 128, .inl (zA cp2))), (he, .inl (cI, 64, .inl (zA g)))]) (rs := [(h0, .inr (3, [.ref qm, .ref qg, .ref ql, .ref qs, .ref qc])), (h1, .inr (1, [.int (zI p), .int (zI n), .int (zI iv), .int (zI wy), .int (zI gn), .ref hw])), (hw, .inl (cI, 64, .inl (zA pw)))]) (rc := [(h1, .inr (1, [.int (zI p), .int (zI n), .int (zI iv), .int (zI wy), .int (zI gn), .ref hw])), (hw, .inl (cI, 64, .inl (zA pw)))]) hP hR (isR := [6, 7]) rfl
    refine z_ro (ws := [(qm, .inl (cI, 64, .inl (zA md))), (ql, .inl (cI, 64, .inl (zA (zU ln2 m (g (s2_16 m)))))), (qs, .inl (cI, 64, .inl (zA s2_16))), (qc, .inl (cI, 128, .inl (zA cp2))), (he, .inl (cI, 64, .inl (zA g)))]) (va_runV (As := [.int (zI (tn * (s2_16 (zOp (n - 1) m))))]) (rest := [.int (zI m), .ref qc]) CF (c_X2_power l D cI h1 p n iv wy gn hw pw (tn * (s2_16 (zOp (n - 1) m))) (by omega) (by omega) H.size) (cwV 1 hts gX4_byRader_X2_power rfl rfl rfl (by decide +kernel) ⟨Nat.le_of_ble_eq_true rfl, Nat.le_of_ble_eq_true rfl⟩) (z_preV (va_recv hK hR (ci := 1) (q0 := 1) rfl rfl) z_nilP (z_nilD (A := A)) hRc z_noX (hK.sub (tys' := [(cI, .int)]) [0] rfl)) rfl rfl hl.1 rfl (lv_room (Nat.le_of_ble_eq_true rfl)) dX4_byRader_72 ⟨Nat.le_of_ble_eq_true rfl, Nat.le_of_ble_eq_true rfl⟩) hP hS hA (cells' := 0) (slots' := 0) rfl rfl (fun H locs hP hS => ?_)
    have hR := hR0.at hS
    refine z_iast (cA := cI) (n := 128) (g := cp2) (i := m) (v := pw ((tn * (s2_16 (zOp (n - 1) m))) % n)) hx hb hK hP hD hS 3 0 rfl rfl rfl (by omega) dX4_byRader_75 (fun H locs hP hD hS => ?_)
    have hP : va_P D vwCl [(qm, .inl (cI, 64, .inl (zA md))), (ql, .inl (cI, 64, .inl (zA (zU ln2 m (g (s2_16 m)))))), (qs, .inl (cI, 64, .inl (zA s2_16))), (qc, .inl (cI, 128, .inl (zA (zU cp2 m (pw ((tn * (s2_16 (zOp (n - 1) m))) % n)))))), (he, .inl (cI, 64, .inl (zA g)))] H := hP
    have hD : va_D A [(qm, .inl (cI, 64, .inl (zA md))), (ql, .inl (cI, 64, .inl (zA (zU ln2 m (g (s2_16 m)))))), (qs, .inl (cI, 64, .inl (zA s2_16))), (qc, .inl (cI, 128, .inl (zA (zU cp2 m (pw ((tn * (s2_16 (zOp (n - 1) m))) % n)))))), (he, .inl (cI, 64, .inl (zA g)))] := hD
    have hR := hR0.at hS
    refine lv_lload hx hb dX4_byRader_76 (lv_at hl 6 rfl) ?_
    refine lv_aload_n hx hb dX4_byRader_78 rfl (lv_at hl 0 rfl) ?_
    refine va_get (D := D) (ci := 3) (C := RX4) (T := TX4) (N := 5) hx hb hts hi4 hown hK hR 0 rfl rfl 2 (by decide) (hts (.fieldLink RX4 18 "ButterflyYard$Transformer" "line" "[I") (by decide +kernel)) (fun _ h9 => h9) rfl dX4_byRader_79 ?_
    refine lv_iload hx hb dX4_byRader_82 (lv_at hl 7 rfl) ?_
    refine z_iald (cA := cI) (n := 64) (g := zU ln2 m (g (s2_16 m))) hx hb hK hP 1 0 rfl rfl rfl (by omega) dX4_byRader_84 ?_
    rw [zU_s]
    refine z_i2l hx hb dX4_byRader_85 (by omega) ?_
    refine z_ladd hx hb dX4_byRader_86 ?_
    refine lv_lstore (lv' := [(6, .long (zL (t + (g (s2_16 m))))), (0, .ref h0), (1, .ref h1), (2, .ref he), (3, .int (zI tn)), (4, .int (zI n)), (5, .int (zI (n - 1))), (8, .int (zI m))]) hx hb dX4_byRader_87 hl (by decide) rfl (fun ls hl => ?_)
    have hl := lv_sub hl [1, 2, 3, 4, 5, 6, 0, 7] rfl
    have hl : lv_has ls 11 [(0, .ref h0), (1, .ref h1), (2, .ref he), (3, .int (zI tn)), (4, .int (zI n)), (5, .int (zI (n - 1))), (6, .long (zL (t + (g (s2_16 m))))), (8, .int (zI m))] := hl
    refine lv_iinc (v := zI (m + 1)) (lv' := [(8, .int (zI (m + 1))), (0, .ref h0), (1, .ref h1), (2, .ref he), (3, .int (zI tn)), (4, .int (zI n)), (5, .int (zI (n - 1))), (6, .long (zL (t + (g (s2_16 m)))))]) hx hb dX4_byRader_89 hl (k := 7) rfl (zI_add _ _) (by decide) rfl (fun ls hl => ?_)
    have hl := lv_sub hl [1, 2, 3, 4, 5, 6, 7, 0] rfl
    have hl : lv_has ls 11 [(0, .ref h0), (1, .ref h1), (2, .ref he), (3, .int (zI tn)), (4, .int (zI n)), (5, .int (zI (n - 1))), (6, .long (zL (t + (g (s2_16 m))))), (8, .int (zI (m + 1)))] := hl
    refine lv_goto (tgt := 28) hx hb dX4_byRader_92 (by decide) ?_
    exact ih_28 (t + (g (s2_16 m)), m + 1, zU ln2 m (g (s2_16 m)), zU cp2 m (pw ((tn * (s2_16 (zOp (n - 1) m))) % n))) _ _ _ ⟨(by omega), (by rw [ht_, zT_s _ hm_.1, hse, Int.add_assoc]), (by omega), (by exact zU_fill hln (by rw [hse])), (by exact zU_fill hcp (by rw [hso])), hP, hD, hS, hl⟩ (by show (n - 1 - (m + 1)).toNat < (n - 1 - m).toNat; omega)

