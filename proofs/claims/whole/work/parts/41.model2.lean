set_option maxHeartbeats 4000000 in
set_option maxRecDepth 100000 in
theorem c_X6_plan_1a (l : Launch) (D : va_G) (cI : ClassId) (h0 : Nat) (ae : Nat) (al : Nat) (ap : Nat) (az : Nat) (ar : Nat) (am : Nat) (np : Int) (th : Int) (q : Int) (n : Int) (ha_q : -2147483648 ≤ q ∧ q ≤ 2147483647) (ha_n : -2147483648 ≤ n ∧ n ≤ 2147483647) (hnp_ : 0 ≤ np ∧ np ≤ 8) (h3 : q < 3) : zC l yX6_plan wsX6_plan ({ frames := 0, cells := 0, slots := 0, locals := 0 } : Room) D [(cI, .int)] [(h0, .inr (5, [.ref ae, .ref al, .ref ap, .ref az, .ref ar, .int (zI np), .ref am, .int (zI th)]))] [] [.ref h0, .int (zI q), .int (zI n)] (S := Unit) (fun u => True) (fun u => some (.int (zI 0))) (fun u => [(h0, .inr (5, [.ref ae, .ref al, .ref ap, .ref az, .ref ar, .int (zI np), .ref am, .int (zI 1)]))]) := by
  refine z_start (cc := cX6_plan) (maxL := 5) (ret := (some .int)) (own := RX6) (by decide) rfl rfl (Nat.le_of_ble_eq_true rfl) [(0, .ref h0), (1, .int (zI q)), (2, .int (zI n))] rfl ?_
  intro pp ee s mm below meth cc A H ls hx hb hr hml hts hown hlocks hin hK hA hP hD hS hR0 hR hl
  have CF : CallFix pp mm cc cX6_plan 5 s ([.ref h0, .int (zI q), .int (zI n)] : List Value).toArray wsX6_plan RX6 := ⟨hx, hb, hml, hown, hts⟩
  have hi6 : ∀ w ∈ wsX60, w ∈ wsX6_plan := by decide +kernel
  refine lv_iload_n hx hb dX6_plan_0 rfl (lv_at hl 1 rfl) ?_
  refine z_iconst hx hb dX6_plan_1 ?_
  refine z_icmp_lt (tgt := 42) hx hb dX6_plan_2 (by decide) (by omega) (fun c_2 => ?_) (fun c_2 => absurd c_2 (by omega))
  refine z_iconst hx hb dX6_plan_42 ?_
  refine lv_istore_n (lv' := [(3, .int (zI 0)), (0, .ref h0), (1, .int (zI q)), (2, .int (zI n))]) hx hb dX6_plan_43 rfl hl (by decide) rfl (fun ls hl => ?_)
  have hl := lv_sub hl [1, 2, 3, 0] rfl
  have hl : lv_has ls 5 [(0, .ref h0), (1, .int (zI q)), (2, .int (zI n)), (3, .int (zI 0))] := hl
  refine lv_aload_n hx hb dX6_plan_44 rfl (lv_at hl 0 rfl) ?_
  refine lv_iload_n hx hb dX6_plan_45 rfl (lv_at hl 3 rfl) ?_
  refine z_if_ne (tgt := 53) hx hb dX6_plan_46 (by decide) (by omega) (fun c_46 => absurd c_46 (by omega)) (fun c_46 => ?_)
  refine z_iconst hx hb dX6_plan_49 ?_
  refine lv_goto (tgt := 67) hx hb dX6_plan_50 (by decide) ?_
  refine va_put (D := D) (ci := 5) (v := .int (zI 1)) (ty := .int) (C := RX6) (T := TX6) (N := 8) hx hb hts hi6 tyX6 tyX6_ok nmX6 hown hK hP hD hS 0 rfl rfl 7 (by decide) (hts (.fieldLink RX6 28 "ButterflyYardModel" "thrown" "I") (by decide +kernel)) (fun _ h9 => h9) rfl (by decide +kernel) rfl rfl (Nat.le_of_ble_eq_true rfl) dX6_plan_67 (fun H locs hP hD hS => ?_)
  have hP : va_P D vwCl [(h0, .inr (5, [.ref ae, .ref al, .ref ap, .ref az, .ref ar, .int (zI np), .ref am, .int (zI 1)]))] H := hP
  have hD : va_D A [(h0, .inr (5, [.ref ae, .ref al, .ref ap, .ref az, .ref ar, .int (zI np), .ref am, .int (zI 1)]))] := hD
  refine lv_aload_n hx hb dX6_plan_70 rfl (lv_at hl 0 rfl) ?_
  refine va_get (D := D) (ci := 5) (C := RX6) (T := TX6) (N := 8) hx hb hts hi6 hown hK hP 0 rfl rfl 7 (by decide) (hts (.fieldLink RX6 28 "ButterflyYardModel" "thrown" "I") (by decide +kernel)) (fun _ h9 => h9) rfl dX6_plan_71 ?_
  refine z_if_eq (tgt := 79) hx hb dX6_plan_74 (by decide) (by omega) (fun c_74 => absurd c_74 (by omega)) (fun c_74 => ?_)
  refine z_iconst hx hb dX6_plan_77 ?_
  exact z_iret hx hb hr hlocks rfl () (rfl) (trivial) hP hD hS dX6_plan_78

set_option maxHeartbeats 4000000 in
set_option maxRecDepth 100000 in
theorem c_X6_plan_1b (l : Launch) (D : va_G) (cI : ClassId) (h0 : Nat) (ae : Nat) (al : Nat) (ap : Nat) (az : Nat) (ar : Nat) (am : Nat) (np : Int) (th : Int) (q : Int) (n : Int) (ha_q : -2147483648 ≤ q ∧ q ≤ 2147483647) (ha_n : -2147483648 ≤ n ∧ n ≤ 2147483647) (hnp_ : 0 ≤ np ∧ np ≤ 8) (h3 : 9973 < q) : zC l yX6_plan wsX6_plan ({ frames := 0, cells := 0, slots := 0, locals := 0 } : Room) D [(cI, .int)] [(h0, .inr (5, [.ref ae, .ref al, .ref ap, .ref az, .ref ar, .int (zI np), .ref am, .int (zI th)]))] [] [.ref h0, .int (zI q), .int (zI n)] (S := Unit) (fun u => True) (fun u => some (.int (zI 0))) (fun u => [(h0, .inr (5, [.ref ae, .ref al, .ref ap, .ref az, .ref ar, .int (zI np), .ref am, .int (zI 1)]))]) := by
  refine z_start (cc := cX6_plan) (maxL := 5) (ret := (some .int)) (own := RX6) (by decide) rfl rfl (Nat.le_of_ble_eq_true rfl) [(0, .ref h0), (1, .int (zI q)), (2, .int (zI n))] rfl ?_
  intro pp ee s mm below meth cc A H ls hx hb hr hml hts hown hlocks hin hK hA hP hD hS hR0 hR hl
  have CF : CallFix pp mm cc cX6_plan 5 s ([.ref h0, .int (zI q), .int (zI n)] : List Value).toArray wsX6_plan RX6 := ⟨hx, hb, hml, hown, hts⟩
  have hi6 : ∀ w ∈ wsX60, w ∈ wsX6_plan := by decide +kernel
  refine lv_iload_n hx hb dX6_plan_0 rfl (lv_at hl 1 rfl) ?_
  refine z_iconst hx hb dX6_plan_1 ?_
  refine z_icmp_lt (tgt := 42) hx hb dX6_plan_2 (by decide) (by omega) (fun c_2 => absurd c_2 (by omega)) (fun c_2 => ?_)
  refine lv_iload_n hx hb dX6_plan_5 rfl (lv_at hl 1 rfl) ?_
  refine z_sipush hx hb dX6_plan_6 (by decide) ?_
  refine z_icmp_gt (tgt := 42) hx hb dX6_plan_9 (by decide) (by omega) (fun c_9 => ?_) (fun c_9 => absurd c_9 (by omega))
  refine z_iconst hx hb dX6_plan_42 ?_
  refine lv_istore_n (lv' := [(3, .int (zI 0)), (0, .ref h0), (1, .int (zI q)), (2, .int (zI n))]) hx hb dX6_plan_43 rfl hl (by decide) rfl (fun ls hl => ?_)
  have hl := lv_sub hl [1, 2, 3, 0] rfl
  have hl : lv_has ls 5 [(0, .ref h0), (1, .int (zI q)), (2, .int (zI n)), (3, .int (zI 0))] := hl
  refine lv_aload_n hx hb dX6_plan_44 rfl (lv_at hl 0 rfl) ?_
  refine lv_iload_n hx hb dX6_plan_45 rfl (lv_at hl 3 rfl) ?_
  refine z_if_ne (tgt := 53) hx hb dX6_plan_46 (by decide) (by omega) (fun c_46 => absurd c_46 (by omega)) (fun c_46 => ?_)
  refine z_iconst hx hb dX6_plan_49 ?_
  refine lv_goto (tgt := 67) hx hb dX6_plan_50 (by decide) ?_
  refine va_put (D := D) (ci := 5) (v := .int (zI 1)) (ty := .int) (C := RX6) (T := TX6) (N := 8) hx hb hts hi6 tyX6 tyX6_ok nmX6 hown hK hP hD hS 0 rfl rfl 7 (by decide) (hts (.fieldLink RX6 28 "ButterflyYardModel" "thrown" "I") (by decide +kernel)) (fun _ h9 => h9) rfl (by decide +kernel) rfl rfl (Nat.le_of_ble_eq_true rfl) dX6_plan_67 (fun H locs hP hD hS => ?_)
  have hP : va_P D vwCl [(h0, .inr (5, [.ref ae, .ref al, .ref ap, .ref az, .ref ar, .int (zI np), .ref am, .int (zI 1)]))] H := hP
  have hD : va_D A [(h0, .inr (5, [.ref ae, .ref al, .ref ap, .ref az, .ref ar, .int (zI np), .ref am, .int (zI 1)]))] := hD
  refine lv_aload_n hx hb dX6_plan_70 rfl (lv_at hl 0 rfl) ?_
  refine va_get (D := D) (ci := 5) (C := RX6) (T := TX6) (N := 8) hx hb hts hi6 hown hK hP 0 rfl rfl 7 (by decide) (hts (.fieldLink RX6 28 "ButterflyYardModel" "thrown" "I") (by decide +kernel)) (fun _ h9 => h9) rfl dX6_plan_71 ?_
  refine z_if_eq (tgt := 79) hx hb dX6_plan_74 (by decide) (by omega) (fun c_74 => absurd c_74 (by omega)) (fun c_74 => ?_)
  refine z_iconst hx hb dX6_plan_77 ?_
  exact z_iret hx hb hr hlocks rfl () (rfl) (trivial) hP hD hS dX6_plan_78

set_option maxHeartbeats 4000000 in
set_option maxRecDepth 100000 in
theorem c_X6_plan_1c (l : Launch) (D : va_G) (cI : ClassId) (h0 : Nat) (ae : Nat) (al : Nat) (ap : Nat) (az : Nat) (ar : Nat) (am : Nat) (np : Int) (th : Int) (q : Int) (n : Int) (ha_q : -2147483648 ≤ q ∧ q ≤ 2147483647) (ha_n : -2147483648 ≤ n ∧ n ≤ 2147483647) (hnp_ : 0 ≤ np ∧ np ≤ 8) (h3 : 3 ≤ q ∧ q ≤ 9973) (hpr : ¬ (1 < q ∧ lfac q = q)) : zC l yX6_plan wsX6_plan ({ frames := 1, cells := 0, slots := 0, locals := 22 } : Room) D [(cI, .int)] [(h0, .inr (5, [.ref ae, .ref al, .ref ap, .ref az, .ref ar, .int (zI np), .ref am, .int (zI th)]))] [] [.ref h0, .int (zI q), .int (zI n)] (S := Unit) (fun u => True) (fun u => some (.int (zI 0))) (fun u => [(h0, .inr (5, [.ref ae, .ref al, .ref ap, .ref az, .ref ar, .int (zI np), .ref am, .int (zI 1)]))]) := by
  refine z_start (cc := cX6_plan) (maxL := 5) (ret := (some .int)) (own := RX6) (by decide) rfl rfl (Nat.le_of_ble_eq_true rfl) [(0, .ref h0), (1, .int (zI q)), (2, .int (zI n))] rfl ?_
  intro pp ee s mm below meth cc A H ls hx hb hr hml hts hown hlocks hin hK hA hP hD hS hR0 hR hl
  have CF : CallFix pp mm cc cX6_plan 5 s ([.ref h0, .int (zI q), .int (zI n)] : List Value).toArray wsX6_plan RX6 := ⟨hx, hb, hml, hown, hts⟩
  have hi6 : ∀ w ∈ wsX60, w ∈ wsX6_plan := by decide +kernel
  refine lv_iload_n hx hb dX6_plan_0 rfl (lv_at hl 1 rfl) ?_
  refine z_iconst hx hb dX6_plan_1 ?_
  refine z_icmp_lt (tgt := 42) hx hb dX6_plan_2 (by decide) (by omega) (fun c_2 => absurd c_2 (by omega)) (fun c_2 => ?_)
  refine lv_iload_n hx hb dX6_plan_5 rfl (lv_at hl 1 rfl) ?_
  refine z_sipush hx hb dX6_plan_6 (by decide) ?_
  refine z_icmp_gt (tgt := 42) hx hb dX6_plan_9 (by decide) (by omega) (fun c_9 => absurd c_9 (by omega)) (fun c_9 => ?_)
  refine lv_iload_n hx hb dX6_plan_12 rfl (lv_at hl 1 rfl) ?_
  have hRc : va_P D vwCl [] H := z_nilP
  refine z_ro (ws := [(h0, .inr (5, [.ref ae, .ref al, .ref ap, .ref az, .ref ar, .int (zI np), .ref am, .int (zI th)]))]) (va_runS (As := [.int (zI q)]) (rest := []) CF (c_X6_isPrime l D q (by omega) H.size) (va_cwS 1 hts gX6_plan_X6_isPrime rfl rfl rfl (by decide +kernel) ⟨Nat.le_of_ble_eq_true rfl, Nat.le_of_ble_eq_true rfl⟩) (z_preS z_nilP (z_nilD (A := A)) hRc z_noX (hK.sub (tys' := []) [] rfl)) rfl rfl hl.1 rfl (lv_room (Nat.le_of_ble_eq_true rfl)) dX6_plan_13 ⟨Nat.le_of_ble_eq_true rfl, Nat.le_of_ble_eq_true rfl⟩) hP hS hA (cells' := 0) (slots' := 0) rfl rfl (fun H locs hP hS => ?_)
  refine z_ifB_eq (tgt := 42) hx hb dX6_plan_16 (by decide) (fun c_16 => ?_) (fun c_16 => absurd c_16 (by exact hpr))
  refine z_iconst hx hb dX6_plan_42 ?_
  refine lv_istore_n (lv' := [(3, .int (zI 0)), (0, .ref h0), (1, .int (zI q)), (2, .int (zI n))]) hx hb dX6_plan_43 rfl hl (by decide) rfl (fun ls hl => ?_)
  have hl := lv_sub hl [1, 2, 3, 0] rfl
  have hl : lv_has ls 5 [(0, .ref h0), (1, .int (zI q)), (2, .int (zI n)), (3, .int (zI 0))] := hl
  refine lv_aload_n hx hb dX6_plan_44 rfl (lv_at hl 0 rfl) ?_
  refine lv_iload_n hx hb dX6_plan_45 rfl (lv_at hl 3 rfl) ?_
  refine z_if_ne (tgt := 53) hx hb dX6_plan_46 (by decide) (by omega) (fun c_46 => absurd c_46 (by omega)) (fun c_46 => ?_)
  refine z_iconst hx hb dX6_plan_49 ?_
  refine lv_goto (tgt := 67) hx hb dX6_plan_50 (by decide) ?_
  refine va_put (D := D) (ci := 5) (v := .int (zI 1)) (ty := .int) (C := RX6) (T := TX6) (N := 8) hx hb hts hi6 tyX6 tyX6_ok nmX6 hown hK hP hD hS 0 rfl rfl 7 (by decide) (hts (.fieldLink RX6 28 "ButterflyYardModel" "thrown" "I") (by decide +kernel)) (fun _ h9 => h9) rfl (by decide +kernel) rfl rfl (Nat.le_of_ble_eq_true rfl) dX6_plan_67 (fun H locs hP hD hS => ?_)
  have hP : va_P D vwCl [(h0, .inr (5, [.ref ae, .ref al, .ref ap, .ref az, .ref ar, .int (zI np), .ref am, .int (zI 1)]))] H := hP
  have hD : va_D A [(h0, .inr (5, [.ref ae, .ref al, .ref ap, .ref az, .ref ar, .int (zI np), .ref am, .int (zI 1)]))] := hD
  refine lv_aload_n hx hb dX6_plan_70 rfl (lv_at hl 0 rfl) ?_
  refine va_get (D := D) (ci := 5) (C := RX6) (T := TX6) (N := 8) hx hb hts hi6 hown hK hP 0 rfl rfl 7 (by decide) (hts (.fieldLink RX6 28 "ButterflyYardModel" "thrown" "I") (by decide +kernel)) (fun _ h9 => h9) rfl dX6_plan_71 ?_
  refine z_if_eq (tgt := 79) hx hb dX6_plan_74 (by decide) (by omega) (fun c_74 => absurd c_74 (by omega)) (fun c_74 => ?_)
  refine z_iconst hx hb dX6_plan_77 ?_
  exact z_iret hx hb hr hlocks rfl () (rfl) (trivial) hP hD hS dX6_plan_78

set_option maxHeartbeats 4000000 in
set_option maxRecDepth 100000 in
theorem c_X6_plan_1d (l : Launch) (D : va_G) (cI : ClassId) (h0 : Nat) (ae : Nat) (al : Nat) (ap : Nat) (az : Nat) (ar : Nat) (am : Nat) (np : Int) (th : Int) (q : Int) (n : Int) (ha_q : -2147483648 ≤ q ∧ q ≤ 2147483647) (ha_n : -2147483648 ≤ n ∧ n ≤ 2147483647) (hnp_ : 0 ≤ np ∧ np ≤ 8) (h3 : 3 ≤ q ∧ q ≤ 9973) (hpr : 1 < q ∧ lfac q = q) (hn : n < 1) : zC l yX6_plan wsX6_plan ({ frames := 1, cells := 0, slots := 0, locals := 22 } : Room) D [(cI, .int)] [(h0, .inr (5, [.ref ae, .ref al, .ref ap, .ref az, .ref ar, .int (zI np), .ref am, .int (zI th)]))] [] [.ref h0, .int (zI q), .int (zI n)] (S := Unit) (fun u => True) (fun u => some (.int (zI 0))) (fun u => [(h0, .inr (5, [.ref ae, .ref al, .ref ap, .ref az, .ref ar, .int (zI np), .ref am, .int (zI 1)]))]) := by
  refine z_start (cc := cX6_plan) (maxL := 5) (ret := (some .int)) (own := RX6) (by decide) rfl rfl (Nat.le_of_ble_eq_true rfl) [(0, .ref h0), (1, .int (zI q)), (2, .int (zI n))] rfl ?_
  intro pp ee s mm below meth cc A H ls hx hb hr hml hts hown hlocks hin hK hA hP hD hS hR0 hR hl
  have CF : CallFix pp mm cc cX6_plan 5 s ([.ref h0, .int (zI q), .int (zI n)] : List Value).toArray wsX6_plan RX6 := ⟨hx, hb, hml, hown, hts⟩
  have hi6 : ∀ w ∈ wsX60, w ∈ wsX6_plan := by decide +kernel
  refine lv_iload_n hx hb dX6_plan_0 rfl (lv_at hl 1 rfl) ?_
  refine z_iconst hx hb dX6_plan_1 ?_
  refine z_icmp_lt (tgt := 42) hx hb dX6_plan_2 (by decide) (by omega) (fun c_2 => absurd c_2 (by omega)) (fun c_2 => ?_)
  refine lv_iload_n hx hb dX6_plan_5 rfl (lv_at hl 1 rfl) ?_
  refine z_sipush hx hb dX6_plan_6 (by decide) ?_
  refine z_icmp_gt (tgt := 42) hx hb dX6_plan_9 (by decide) (by omega) (fun c_9 => absurd c_9 (by omega)) (fun c_9 => ?_)
  refine lv_iload_n hx hb dX6_plan_12 rfl (lv_at hl 1 rfl) ?_
  have hRc : va_P D vwCl [] H := z_nilP
  refine z_ro (ws := [(h0, .inr (5, [.ref ae, .ref al, .ref ap, .ref az, .ref ar, .int (zI np), .ref am, .int (zI th)]))]) (va_runS (As := [.int (zI q)]) (rest := []) CF (c_X6_isPrime l D q (by omega) H.size) (va_cwS 1 hts gX6_plan_X6_isPrime rfl rfl rfl (by decide +kernel) ⟨Nat.le_of_ble_eq_true rfl, Nat.le_of_ble_eq_true rfl⟩) (z_preS z_nilP (z_nilD (A := A)) hRc z_noX (hK.sub (tys' := []) [] rfl)) rfl rfl hl.1 rfl (lv_room (Nat.le_of_ble_eq_true rfl)) dX6_plan_13 ⟨Nat.le_of_ble_eq_true rfl, Nat.le_of_ble_eq_true rfl⟩) hP hS hA (cells' := 0) (slots' := 0) rfl rfl (fun H locs hP hS => ?_)
  refine z_ifB_eq (tgt := 42) hx hb dX6_plan_16 (by decide) (fun c_16 => absurd c_16 (by exact not_not_intro hpr)) (fun c_16 => ?_)
  refine lv_iload_n hx hb dX6_plan_19 rfl (lv_at hl 2 rfl) ?_
  refine z_iconst hx hb dX6_plan_20 ?_
  refine z_icmp_lt (tgt := 42) hx hb dX6_plan_21 (by decide) (by omega) (fun c_21 => ?_) (fun c_21 => absurd c_21 (by omega))
  refine z_iconst hx hb dX6_plan_42 ?_
  refine lv_istore_n (lv' := [(3, .int (zI 0)), (0, .ref h0), (1, .int (zI q)), (2, .int (zI n))]) hx hb dX6_plan_43 rfl hl (by decide) rfl (fun ls hl => ?_)
  have hl := lv_sub hl [1, 2, 3, 0] rfl
  have hl : lv_has ls 5 [(0, .ref h0), (1, .int (zI q)), (2, .int (zI n)), (3, .int (zI 0))] := hl
  refine lv_aload_n hx hb dX6_plan_44 rfl (lv_at hl 0 rfl) ?_
  refine lv_iload_n hx hb dX6_plan_45 rfl (lv_at hl 3 rfl) ?_
  refine z_if_ne (tgt := 53) hx hb dX6_plan_46 (by decide) (by omega) (fun c_46 => absurd c_46 (by omega)) (fun c_46 => ?_)
  refine z_iconst hx hb dX6_plan_49 ?_
  refine lv_goto (tgt := 67) hx hb dX6_plan_50 (by decide) ?_
  refine va_put (D := D) (ci := 5) (v := .int (zI 1)) (ty := .int) (C := RX6) (T := TX6) (N := 8) hx hb hts hi6 tyX6 tyX6_ok nmX6 hown hK hP hD hS 0 rfl rfl 7 (by decide) (hts (.fieldLink RX6 28 "ButterflyYardModel" "thrown" "I") (by decide +kernel)) (fun _ h9 => h9) rfl (by decide +kernel) rfl rfl (Nat.le_of_ble_eq_true rfl) dX6_plan_67 (fun H locs hP hD hS => ?_)
  have hP : va_P D vwCl [(h0, .inr (5, [.ref ae, .ref al, .ref ap, .ref az, .ref ar, .int (zI np), .ref am, .int (zI 1)]))] H := hP
  have hD : va_D A [(h0, .inr (5, [.ref ae, .ref al, .ref ap, .ref az, .ref ar, .int (zI np), .ref am, .int (zI 1)]))] := hD
  refine lv_aload_n hx hb dX6_plan_70 rfl (lv_at hl 0 rfl) ?_
  refine va_get (D := D) (ci := 5) (C := RX6) (T := TX6) (N := 8) hx hb hts hi6 hown hK hP 0 rfl rfl 7 (by decide) (hts (.fieldLink RX6 28 "ButterflyYardModel" "thrown" "I") (by decide +kernel)) (fun _ h9 => h9) rfl dX6_plan_71 ?_
  refine z_if_eq (tgt := 79) hx hb dX6_plan_74 (by decide) (by omega) (fun c_74 => absurd c_74 (by omega)) (fun c_74 => ?_)
  refine z_iconst hx hb dX6_plan_77 ?_
  exact z_iret hx hb hr hlocks rfl () (rfl) (trivial) hP hD hS dX6_plan_78

set_option maxHeartbeats 4000000 in
set_option maxRecDepth 100000 in
theorem c_X6_plan_1e (l : Launch) (D : va_G) (cI : ClassId) (h0 : Nat) (ae : Nat) (al : Nat) (ap : Nat) (az : Nat) (ar : Nat) (am : Nat) (np : Int) (th : Int) (q : Int) (n : Int) (ha_q : -2147483648 ≤ q ∧ q ≤ 2147483647) (ha_n : -2147483648 ≤ n ∧ n ≤ 2147483647) (hnp_ : 0 ≤ np ∧ np ≤ 8) (h3 : 3 ≤ q ∧ q ≤ 9973) (hpr : 1 < q ∧ lfac q = q) (hn : 64 < n) : zC l yX6_plan wsX6_plan ({ frames := 1, cells := 0, slots := 0, locals := 22 } : Room) D [(cI, .int)] [(h0, .inr (5, [.ref ae, .ref al, .ref ap, .ref az, .ref ar, .int (zI np), .ref am, .int (zI th)]))] [] [.ref h0, .int (zI q), .int (zI n)] (S := Unit) (fun u => True) (fun u => some (.int (zI 0))) (fun u => [(h0, .inr (5, [.ref ae, .ref al, .ref ap, .ref az, .ref ar, .int (zI np), .ref am, .int (zI 1)]))]) := by
  refine z_start (cc := cX6_plan) (maxL := 5) (ret := (some .int)) (own := RX6) (by decide) rfl rfl (Nat.le_of_ble_eq_true rfl) [(0, .ref h0), (1, .int (zI q)), (2, .int (zI n))] rfl ?_
  intro pp ee s mm below meth cc A H ls hx hb hr hml hts hown hlocks hin hK hA hP hD hS hR0 hR hl
  have CF : CallFix pp mm cc cX6_plan 5 s ([.ref h0, .int (zI q), .int (zI n)] : List Value).toArray wsX6_plan RX6 := ⟨hx, hb, hml, hown, hts⟩
  have hi6 : ∀ w ∈ wsX60, w ∈ wsX6_plan := by decide +kernel
  refine lv_iload_n hx hb dX6_plan_0 rfl (lv_at hl 1 rfl) ?_
  refine z_iconst hx hb dX6_plan_1 ?_
  refine z_icmp_lt (tgt := 42) hx hb dX6_plan_2 (by decide) (by omega) (fun c_2 => absurd c_2 (by omega)) (fun c_2 => ?_)
  refine lv_iload_n hx hb dX6_plan_5 rfl (lv_at hl 1 rfl) ?_
  refine z_sipush hx hb dX6_plan_6 (by decide) ?_
  refine z_icmp_gt (tgt := 42) hx hb dX6_plan_9 (by decide) (by omega) (fun c_9 => absurd c_9 (by omega)) (fun c_9 => ?_)
  refine lv_iload_n hx hb dX6_plan_12 rfl (lv_at hl 1 rfl) ?_
  have hRc : va_P D vwCl [] H := z_nilP
  refine z_ro (ws := [(h0, .inr (5, [.ref ae, .ref al, .ref ap, .ref az, .ref ar, .int (zI np), .ref am, .int (zI th)]))]) (va_runS (As := [.int (zI q)]) (rest := []) CF (c_X6_isPrime l D q (by omega) H.size) (va_cwS 1 hts gX6_plan_X6_isPrime rfl rfl rfl (by decide +kernel) ⟨Nat.le_of_ble_eq_true rfl, Nat.le_of_ble_eq_true rfl⟩) (z_preS z_nilP (z_nilD (A := A)) hRc z_noX (hK.sub (tys' := []) [] rfl)) rfl rfl hl.1 rfl (lv_room (Nat.le_of_ble_eq_true rfl)) dX6_plan_13 ⟨Nat.le_of_ble_eq_true rfl, Nat.le_of_ble_eq_true rfl⟩) hP hS hA (cells' := 0) (slots' := 0) rfl rfl (fun H locs hP hS => ?_)
  refine z_ifB_eq (tgt := 42) hx hb dX6_plan_16 (by decide) (fun c_16 => absurd c_16 (by exact not_not_intro hpr)) (fun c_16 => ?_)
  refine lv_iload_n hx hb dX6_plan_19 rfl (lv_at hl 2 rfl) ?_
  refine z_iconst hx hb dX6_plan_20 ?_
  refine z_icmp_lt (tgt := 42) hx hb dX6_plan_21 (by decide) (by omega) (fun c_21 => absurd c_21 (by omega)) (fun c_21 => ?_)
  refine lv_iload_n hx hb dX6_plan_24 rfl (lv_at hl 2 rfl) ?_
  refine z_bipush hx hb dX6_plan_25 (by decide) ?_
  refine z_icmp_gt (tgt := 42) hx hb dX6_plan_27 (by decide) (by omega) (fun c_27 => ?_) (fun c_27 => absurd c_27 (by omega))
  refine z_iconst hx hb dX6_plan_42 ?_
  refine lv_istore_n (lv' := [(3, .int (zI 0)), (0, .ref h0), (1, .int (zI q)), (2, .int (zI n))]) hx hb dX6_plan_43 rfl hl (by decide) rfl (fun ls hl => ?_)
  have hl := lv_sub hl [1, 2, 3, 0] rfl
  have hl : lv_has ls 5 [(0, .ref h0), (1, .int (zI q)), (2, .int (zI n)), (3, .int (zI 0))] := hl
  refine lv_aload_n hx hb dX6_plan_44 rfl (lv_at hl 0 rfl) ?_
  refine lv_iload_n hx hb dX6_plan_45 rfl (lv_at hl 3 rfl) ?_
  refine z_if_ne (tgt := 53) hx hb dX6_plan_46 (by decide) (by omega) (fun c_46 => absurd c_46 (by omega)) (fun c_46 => ?_)
  refine z_iconst hx hb dX6_plan_49 ?_
  refine lv_goto (tgt := 67) hx hb dX6_plan_50 (by decide) ?_
  refine va_put (D := D) (ci := 5) (v := .int (zI 1)) (ty := .int) (C := RX6) (T := TX6) (N := 8) hx hb hts hi6 tyX6 tyX6_ok nmX6 hown hK hP hD hS 0 rfl rfl 7 (by decide) (hts (.fieldLink RX6 28 "ButterflyYardModel" "thrown" "I") (by decide +kernel)) (fun _ h9 => h9) rfl (by decide +kernel) rfl rfl (Nat.le_of_ble_eq_true rfl) dX6_plan_67 (fun H locs hP hD hS => ?_)
  have hP : va_P D vwCl [(h0, .inr (5, [.ref ae, .ref al, .ref ap, .ref az, .ref ar, .int (zI np), .ref am, .int (zI 1)]))] H := hP
  have hD : va_D A [(h0, .inr (5, [.ref ae, .ref al, .ref ap, .ref az, .ref ar, .int (zI np), .ref am, .int (zI 1)]))] := hD
  refine lv_aload_n hx hb dX6_plan_70 rfl (lv_at hl 0 rfl) ?_
  refine va_get (D := D) (ci := 5) (C := RX6) (T := TX6) (N := 8) hx hb hts hi6 hown hK hP 0 rfl rfl 7 (by decide) (hts (.fieldLink RX6 28 "ButterflyYardModel" "thrown" "I") (by decide +kernel)) (fun _ h9 => h9) rfl dX6_plan_71 ?_
  refine z_if_eq (tgt := 79) hx hb dX6_plan_74 (by decide) (by omega) (fun c_74 => absurd c_74 (by omega)) (fun c_74 => ?_)
  refine z_iconst hx hb dX6_plan_77 ?_
  exact z_iret hx hb hr hlocks rfl () (rfl) (trivial) hP hD hS dX6_plan_78

set_option maxHeartbeats 4000000 in
set_option maxRecDepth 100000 in
theorem c_X6_plan_1f (l : Launch) (D : va_G) (cI : ClassId) (h0 : Nat) (ae : Nat) (al : Nat) (ap : Nat) (az : Nat) (ar : Nat) (am : Nat) (np : Int) (th : Int) (q : Int) (n : Int) (ha_q : -2147483648 ≤ q ∧ q ≤ 2147483647) (ha_n : -2147483648 ≤ n ∧ n ≤ 2147483647) (hnp_ : 0 ≤ np ∧ np ≤ 8) (h3 : 3 ≤ q ∧ q ≤ 9973) (hpr : 1 < q ∧ lfac q = q) (hn : 1 ≤ n ∧ n ≤ 64) (hd_ : (q - 1) % n ≠ 0) : zC l yX6_plan wsX6_plan ({ frames := 1, cells := 0, slots := 0, locals := 22 } : Room) D [(cI, .int)] [(h0, .inr (5, [.ref ae, .ref al, .ref ap, .ref az, .ref ar, .int (zI np), .ref am, .int (zI th)]))] [] [.ref h0, .int (zI q), .int (zI n)] (S := Unit) (fun u => True) (fun u => some (.int (zI 0))) (fun u => [(h0, .inr (5, [.ref ae, .ref al, .ref ap, .ref az, .ref ar, .int (zI np), .ref am, .int (zI 1)]))]) := by
  refine z_start (cc := cX6_plan) (maxL := 5) (ret := (some .int)) (own := RX6) (by decide) rfl rfl (Nat.le_of_ble_eq_true rfl) [(0, .ref h0), (1, .int (zI q)), (2, .int (zI n))] rfl ?_
  intro pp ee s mm below meth cc A H ls hx hb hr hml hts hown hlocks hin hK hA hP hD hS hR0 hR hl
  have CF : CallFix pp mm cc cX6_plan 5 s ([.ref h0, .int (zI q), .int (zI n)] : List Value).toArray wsX6_plan RX6 := ⟨hx, hb, hml, hown, hts⟩
  have hi6 : ∀ w ∈ wsX60, w ∈ wsX6_plan := by decide +kernel
  refine lv_iload_n hx hb dX6_plan_0 rfl (lv_at hl 1 rfl) ?_
  refine z_iconst hx hb dX6_plan_1 ?_
  refine z_icmp_lt (tgt := 42) hx hb dX6_plan_2 (by decide) (by omega) (fun c_2 => absurd c_2 (by omega)) (fun c_2 => ?_)
  refine lv_iload_n hx hb dX6_plan_5 rfl (lv_at hl 1 rfl) ?_
  refine z_sipush hx hb dX6_plan_6 (by decide) ?_
  refine z_icmp_gt (tgt := 42) hx hb dX6_plan_9 (by decide) (by omega) (fun c_9 => absurd c_9 (by omega)) (fun c_9 => ?_)
  refine lv_iload_n hx hb dX6_plan_12 rfl (lv_at hl 1 rfl) ?_
  have hRc : va_P D vwCl [] H := z_nilP
  refine z_ro (ws := [(h0, .inr (5, [.ref ae, .ref al, .ref ap, .ref az, .ref ar, .int (zI np), .ref am, .int (zI th)]))]) (va_runS (As := [.int (zI q)]) (rest := []) CF (c_X6_isPrime l D q (by omega) H.size) (va_cwS 1 hts gX6_plan_X6_isPrime rfl rfl rfl (by decide +kernel) ⟨Nat.le_of_ble_eq_true rfl, Nat.le_of_ble_eq_true rfl⟩) (z_preS z_nilP (z_nilD (A := A)) hRc z_noX (hK.sub (tys' := []) [] rfl)) rfl rfl hl.1 rfl (lv_room (Nat.le_of_ble_eq_true rfl)) dX6_plan_13 ⟨Nat.le_of_ble_eq_true rfl, Nat.le_of_ble_eq_true rfl⟩) hP hS hA (cells' := 0) (slots' := 0) rfl rfl (fun H locs hP hS => ?_)
  refine z_ifB_eq (tgt := 42) hx hb dX6_plan_16 (by decide) (fun c_16 => absurd c_16 (by exact not_not_intro hpr)) (fun c_16 => ?_)
  refine lv_iload_n hx hb dX6_plan_19 rfl (lv_at hl 2 rfl) ?_
  refine z_iconst hx hb dX6_plan_20 ?_
  refine z_icmp_lt (tgt := 42) hx hb dX6_plan_21 (by decide) (by omega) (fun c_21 => absurd c_21 (by omega)) (fun c_21 => ?_)
  refine lv_iload_n hx hb dX6_plan_24 rfl (lv_at hl 2 rfl) ?_
  refine z_bipush hx hb dX6_plan_25 (by decide) ?_
  refine z_icmp_gt (tgt := 42) hx hb dX6_plan_27 (by decide) (by omega) (fun c_27 => absurd c_27 (by omega)) (fun c_27 => ?_)
  refine lv_iload_n hx hb dX6_plan_30 rfl (lv_at hl 1 rfl) ?_
  refine z_iconst hx hb dX6_plan_31 ?_
  refine z_isub hx hb dX6_plan_32 ?_
  refine lv_iload_n hx hb dX6_plan_33 rfl (lv_at hl 2 rfl) ?_
  refine z_irem hx hb dX6_plan_34 (by omega) (by omega) ?_
  have hm_34 := z_rem (a := q - 1) (n := n) (by omega)
  refine z_if_ne (tgt := 42) hx hb dX6_plan_35 (by decide) (by omega) (fun c_35 => ?_) (fun c_35 => absurd c_35 (by exact hd_))
  refine z_iconst hx hb dX6_plan_42 ?_
  refine lv_istore_n (lv' := [(3, .int (zI 0)), (0, .ref h0), (1, .int (zI q)), (2, .int (zI n))]) hx hb dX6_plan_43 rfl hl (by decide) rfl (fun ls hl => ?_)
  have hl := lv_sub hl [1, 2, 3, 0] rfl
  have hl : lv_has ls 5 [(0, .ref h0), (1, .int (zI q)), (2, .int (zI n)), (3, .int (zI 0))] := hl
  refine lv_aload_n hx hb dX6_plan_44 rfl (lv_at hl 0 rfl) ?_
  refine lv_iload_n hx hb dX6_plan_45 rfl (lv_at hl 3 rfl) ?_
  refine z_if_ne (tgt := 53) hx hb dX6_plan_46 (by decide) (by omega) (fun c_46 => absurd c_46 (by omega)) (fun c_46 => ?_)
  refine z_iconst hx hb dX6_plan_49 ?_
  refine lv_goto (tgt := 67) hx hb dX6_plan_50 (by decide) ?_
  refine va_put (D := D) (ci := 5) (v := .int (zI 1)) (ty := .int) (C := RX6) (T := TX6) (N := 8) hx hb hts hi6 tyX6 tyX6_ok nmX6 hown hK hP hD hS 0 rfl rfl 7 (by decide) (hts (.fieldLink RX6 28 "ButterflyYardModel" "thrown" "I") (by decide +kernel)) (fun _ h9 => h9) rfl (by decide +kernel) rfl rfl (Nat.le_of_ble_eq_true rfl) dX6_plan_67 (fun H locs hP hD hS => ?_)
  have hP : va_P D vwCl [(h0, .inr (5, [.ref ae, .ref al, .ref ap, .ref az, .ref ar, .int (zI np), .ref am, .int (zI 1)]))] H := hP
  have hD : va_D A [(h0, .inr (5, [.ref ae, .ref al, .ref ap, .ref az, .ref ar, .int (zI np), .ref am, .int (zI 1)]))] := hD
  refine lv_aload_n hx hb dX6_plan_70 rfl (lv_at hl 0 rfl) ?_
  refine va_get (D := D) (ci := 5) (C := RX6) (T := TX6) (N := 8) hx hb hts hi6 hown hK hP 0 rfl rfl 7 (by decide) (hts (.fieldLink RX6 28 "ButterflyYardModel" "thrown" "I") (by decide +kernel)) (fun _ h9 => h9) rfl dX6_plan_71 ?_
  refine z_if_eq (tgt := 79) hx hb dX6_plan_74 (by decide) (by omega) (fun c_74 => absurd c_74 (by omega)) (fun c_74 => ?_)
  refine z_iconst hx hb dX6_plan_77 ?_
  exact z_iret hx hb hr hlocks rfl () (rfl) (trivial) hP hD hS dX6_plan_78

set_option maxHeartbeats 4000000 in
set_option maxRecDepth 100000 in
theorem c_X6_plan_2 (l : Launch) (D : va_G) (cI : ClassId) (h0 : Nat) (ae : Nat) (al : Nat) (ap : Nat) (az : Nat) (ar : Nat) (am : Nat) (np : Int) (th : Int) (q : Int) (n : Int) (ha_q : -2147483648 ≤ q ∧ q ≤ 2147483647) (ha_n : -2147483648 ≤ n ∧ n ≤ 2147483647) (hnp_ : 0 ≤ np ∧ np ≤ 8) (h3 : 3 ≤ q ∧ q ≤ 9973) (hpr : 1 < q ∧ lfac q = q) (hn : 1 ≤ n ∧ n ≤ 64) (hd_ : (q - 1) % n = 0) (h8 : np = 8) : zC l yX6_plan wsX6_plan ({ frames := 1, cells := 0, slots := 0, locals := 22 } : Room) D [(cI, .int)] [(h0, .inr (5, [.ref ae, .ref al, .ref ap, .ref az, .ref ar, .int (zI np), .ref am, .int (zI th)]))] [] [.ref h0, .int (zI q), .int (zI n)] (S := Unit) (fun u => True) (fun u => some (.int (zI 0))) (fun u => [(h0, .inr (5, [.ref ae, .ref al, .ref ap, .ref az, .ref ar, .int (zI np), .ref am, .int (zI 2)]))]) := by
  refine z_start (cc := cX6_plan) (maxL := 5) (ret := (some .int)) (own := RX6) (by decide) rfl rfl (Nat.le_of_ble_eq_true rfl) [(0, .ref h0), (1, .int (zI q)), (2, .int (zI n))] rfl ?_
  intro pp ee s mm below meth cc A H ls hx hb hr hml hts hown hlocks hin hK hA hP hD hS hR0 hR hl
  have CF : CallFix pp mm cc cX6_plan 5 s ([.ref h0, .int (zI q), .int (zI n)] : List Value).toArray wsX6_plan RX6 := ⟨hx, hb, hml, hown, hts⟩
  have hi6 : ∀ w ∈ wsX60, w ∈ wsX6_plan := by decide +kernel
  refine lv_iload_n hx hb dX6_plan_0 rfl (lv_at hl 1 rfl) ?_
  refine z_iconst hx hb dX6_plan_1 ?_
  refine z_icmp_lt (tgt := 42) hx hb dX6_plan_2 (by decide) (by omega) (fun c_2 => absurd c_2 (by omega)) (fun c_2 => ?_)
  refine lv_iload_n hx hb dX6_plan_5 rfl (lv_at hl 1 rfl) ?_
  refine z_sipush hx hb dX6_plan_6 (by decide) ?_
  refine z_icmp_gt (tgt := 42) hx hb dX6_plan_9 (by decide) (by omega) (fun c_9 => absurd c_9 (by omega)) (fun c_9 => ?_)
  refine lv_iload_n hx hb dX6_plan_12 rfl (lv_at hl 1 rfl) ?_
  have hRc : va_P D vwCl [] H := z_nilP
  refine z_ro (ws := [(h0, .inr (5, [.ref ae, .ref al, .ref ap, .ref az, .ref ar, .int (zI np), .ref am, .int (zI th)]))]) (va_runS (As := [.int (zI q)]) (rest := []) CF (c_X6_isPrime l D q (by omega) H.size) (va_cwS 1 hts gX6_plan_X6_isPrime rfl rfl rfl (by decide +kernel) ⟨Nat.le_of_ble_eq_true rfl, Nat.le_of_ble_eq_true rfl⟩) (z_preS z_nilP (z_nilD (A := A)) hRc z_noX (hK.sub (tys' := []) [] rfl)) rfl rfl hl.1 rfl (lv_room (Nat.le_of_ble_eq_true rfl)) dX6_plan_13 ⟨Nat.le_of_ble_eq_true rfl, Nat.le_of_ble_eq_true rfl⟩) hP hS hA (cells' := 0) (slots' := 0) rfl rfl (fun H locs hP hS => ?_)
  refine z_ifB_eq (tgt := 42) hx hb dX6_plan_16 (by decide) (fun c_16 => absurd c_16 (by exact not_not_intro hpr)) (fun c_16 => ?_)
  refine lv_iload_n hx hb dX6_plan_19 rfl (lv_at hl 2 rfl) ?_
  refine z_iconst hx hb dX6_plan_20 ?_
  refine z_icmp_lt (tgt := 42) hx hb dX6_plan_21 (by decide) (by omega) (fun c_21 => absurd c_21 (by omega)) (fun c_21 => ?_)
  refine lv_iload_n hx hb dX6_plan_24 rfl (lv_at hl 2 rfl) ?_
  refine z_bipush hx hb dX6_plan_25 (by decide) ?_
  refine z_icmp_gt (tgt := 42) hx hb dX6_plan_27 (by decide) (by omega) (fun c_27 => absurd c_27 (by omega)) (fun c_27 => ?_)
  refine lv_iload_n hx hb dX6_plan_30 rfl (lv_at hl 1 rfl) ?_
  refine z_iconst hx hb dX6_plan_31 ?_
  refine z_isub hx hb dX6_plan_32 ?_
  refine lv_iload_n hx hb dX6_plan_33 rfl (lv_at hl 2 rfl) ?_
  refine z_irem hx hb dX6_plan_34 (by omega) (by omega) ?_
  have hm_34 := z_rem (a := q - 1) (n := n) (by omega)
  refine z_if_ne (tgt := 42) hx hb dX6_plan_35 (by decide) (by omega) (fun c_35 => absurd c_35 (by exact not_not_intro hd_)) (fun c_35 => ?_)
  refine z_iconst hx hb dX6_plan_38 ?_
  refine lv_goto (tgt := 43) hx hb dX6_plan_39 (by decide) ?_
  refine lv_istore_n (lv' := [(3, .int (zI 1)), (0, .ref h0), (1, .int (zI q)), (2, .int (zI n))]) hx hb dX6_plan_43 rfl hl (by decide) rfl (fun ls hl => ?_)
  have hl := lv_sub hl [1, 2, 3, 0] rfl
  have hl : lv_has ls 5 [(0, .ref h0), (1, .int (zI q)), (2, .int (zI n)), (3, .int (zI 1))] := hl
  refine lv_aload_n hx hb dX6_plan_44 rfl (lv_at hl 0 rfl) ?_
  refine lv_iload_n hx hb dX6_plan_45 rfl (lv_at hl 3 rfl) ?_
  refine z_if_ne (tgt := 53) hx hb dX6_plan_46 (by decide) (by omega) (fun c_46 => ?_) (fun c_46 => absurd c_46 (by omega))
  refine lv_aload_n hx hb dX6_plan_53 rfl (lv_at hl 0 rfl) ?_
  refine va_get (D := D) (ci := 5) (C := RX6) (T := TX6) (N := 8) hx hb hts hi6 hown hK hP 0 rfl rfl 5 (by decide) (hts (.fieldLink RX6 32 "ButterflyYardModel" "plans" "I") (by decide +kernel)) (fun _ h9 => h9) rfl dX6_plan_54 ?_
  refine z_bipush hx hb dX6_plan_57 (by decide) ?_
  refine z_icmp_ne (tgt := 66) hx hb dX6_plan_59 (by decide) (by omega) (fun c_59 => absurd c_59 (by omega)) (fun c_59 => ?_)
  refine z_iconst hx hb dX6_plan_62 ?_
  refine lv_goto (tgt := 67) hx hb dX6_plan_63 (by decide) ?_
  refine va_put (D := D) (ci := 5) (v := .int (zI 2)) (ty := .int) (C := RX6) (T := TX6) (N := 8) hx hb hts hi6 tyX6 tyX6_ok nmX6 hown hK hP hD hS 0 rfl rfl 7 (by decide) (hts (.fieldLink RX6 28 "ButterflyYardModel" "thrown" "I") (by decide +kernel)) (fun _ h9 => h9) rfl (by decide +kernel) rfl rfl (Nat.le_of_ble_eq_true rfl) dX6_plan_67 (fun H locs hP hD hS => ?_)
  have hP : va_P D vwCl [(h0, .inr (5, [.ref ae, .ref al, .ref ap, .ref az, .ref ar, .int (zI np), .ref am, .int (zI 2)]))] H := hP
  have hD : va_D A [(h0, .inr (5, [.ref ae, .ref al, .ref ap, .ref az, .ref ar, .int (zI np), .ref am, .int (zI 2)]))] := hD
  refine lv_aload_n hx hb dX6_plan_70 rfl (lv_at hl 0 rfl) ?_
  refine va_get (D := D) (ci := 5) (C := RX6) (T := TX6) (N := 8) hx hb hts hi6 hown hK hP 0 rfl rfl 7 (by decide) (hts (.fieldLink RX6 28 "ButterflyYardModel" "thrown" "I") (by decide +kernel)) (fun _ h9 => h9) rfl dX6_plan_71 ?_
  refine z_if_eq (tgt := 79) hx hb dX6_plan_74 (by decide) (by omega) (fun c_74 => absurd c_74 (by omega)) (fun c_74 => ?_)
  refine z_iconst hx hb dX6_plan_77 ?_
  exact z_iret hx hb hr hlocks rfl () (rfl) (trivial) hP hD hS dX6_plan_78

set_option maxHeartbeats 4000000 in
set_option maxRecDepth 100000 in
theorem c_X6_plan_ok (l : Launch) (D : va_G) (cI : ClassId) (h0 : Nat) (ae : Nat) (al : Nat) (ap : Nat) (az : Nat) (ar : Nat) (am : Nat) (np : Int) (th : Int) (xp : Int → Int) (xz : Int → Int) (xr : Int → Int) (q : Int) (n : Int) (ha_q : -2147483648 ≤ q ∧ q ≤ 2147483647) (ha_n : -2147483648 ≤ n ∧ n ≤ 2147483647) (hnp_ : 0 ≤ np ∧ np ≤ 8) (h3 : 3 ≤ q ∧ q ≤ 9973) (hpr : 1 < q ∧ lfac q = q) (hn : 1 ≤ n ∧ n ≤ 64) (hd_ : (q - 1) % n = 0) (h8 : np < 8) : zC l yX6_plan wsX6_plan ({ frames := 1, cells := 0, slots := 0, locals := 24 } : Room) D [(cI, .int)] [(h0, .inr (5, [.ref ae, .ref al, .ref ap, .ref az, .ref ar, .int (zI np), .ref am, .int (zI th)])), (ap, .inl (cI, 8, .inl (zA xp))), (az, .inl (cI, 8, .inl (zA xz))), (ar, .inl (cI, 8, .inl (zA xr)))] [] [.ref h0, .int (zI q), .int (zI n)] (S := Unit) (fun u => True) (fun u => some (.int (zI np))) (fun u => [(h0, .inr (5, [.ref ae, .ref al, .ref ap, .ref az, .ref ar, .int (zI (np + 1)), .ref am, .int (zI 0)])), (ap, .inl (cI, 8, .inl (zA (zU xp np q)))), (az, .inl (cI, 8, .inl (zA (zU xz np n)))), (ar, .inl (cI, 8, .inl (zA (zU xr np (zRoot q n)))))]) := by
  have hPP : zPP q := ⟨h3.1, by omega, hpr.2⟩
  obtain ⟨lp1, lp2, lp3, lp4, lp5⟩ := lpr_facts hPP
  refine z_start (cc := cX6_plan) (maxL := 5) (ret := (some .int)) (own := RX6) (by decide) rfl rfl (Nat.le_of_ble_eq_true rfl) [(0, .ref h0), (1, .int (zI q)), (2, .int (zI n))] rfl ?_
  intro pp ee s mm below meth cc A H ls hx hb hr hml hts hown hlocks hin hK hA hP hD hS hR0 hR hl
  have CF : CallFix pp mm cc cX6_plan 5 s ([.ref h0, .int (zI q), .int (zI n)] : List Value).toArray wsX6_plan RX6 := ⟨hx, hb, hml, hown, hts⟩
  have hi6 : ∀ w ∈ wsX60, w ∈ wsX6_plan := by decide +kernel
  refine lv_iload_n hx hb dX6_plan_0 rfl (lv_at hl 1 rfl) ?_
  refine z_iconst hx hb dX6_plan_1 ?_
  refine z_icmp_lt (tgt := 42) hx hb dX6_plan_2 (by decide) (by omega) (fun c_2 => absurd c_2 (by omega)) (fun c_2 => ?_)
  refine lv_iload_n hx hb dX6_plan_5 rfl (lv_at hl 1 rfl) ?_
  refine z_sipush hx hb dX6_plan_6 (by decide) ?_
  refine z_icmp_gt (tgt := 42) hx hb dX6_plan_9 (by decide) (by omega) (fun c_9 => absurd c_9 (by omega)) (fun c_9 => ?_)
  refine lv_iload_n hx hb dX6_plan_12 rfl (lv_at hl 1 rfl) ?_
  have hRc : va_P D vwCl [] H := z_nilP
  refine z_ro (ws := [(h0, .inr (5, [.ref ae, .ref al, .ref ap, .ref az, .ref ar, .int (zI np), .ref am, .int (zI th)])), (ap, .inl (cI, 8, .inl (zA xp))), (az, .inl (cI, 8, .inl (zA xz))), (ar, .inl (cI, 8, .inl (zA xr)))]) (va_runS (As := [.int (zI q)]) (rest := []) CF (c_X6_isPrime l D q (by omega) H.size) (va_cwS 1 hts gX6_plan_X6_isPrime rfl rfl rfl (by decide +kernel) ⟨Nat.le_of_ble_eq_true rfl, Nat.le_of_ble_eq_true rfl⟩) (z_preS z_nilP (z_nilD (A := A)) hRc z_noX (hK.sub (tys' := []) [] rfl)) rfl rfl hl.1 rfl (lv_room (Nat.le_of_ble_eq_true rfl)) dX6_plan_13 ⟨Nat.le_of_ble_eq_true rfl, Nat.le_of_ble_eq_true rfl⟩) hP hS hA (cells' := 0) (slots' := 0) rfl rfl (fun H locs hP hS => ?_)
  refine z_ifB_eq (tgt := 42) hx hb dX6_plan_16 (by decide) (fun c_16 => absurd c_16 (by exact not_not_intro hpr)) (fun c_16 => ?_)
  refine lv_iload_n hx hb dX6_plan_19 rfl (lv_at hl 2 rfl) ?_
  refine z_iconst hx hb dX6_plan_20 ?_
  refine z_icmp_lt (tgt := 42) hx hb dX6_plan_21 (by decide) (by omega) (fun c_21 => absurd c_21 (by omega)) (fun c_21 => ?_)
  refine lv_iload_n hx hb dX6_plan_24 rfl (lv_at hl 2 rfl) ?_
  refine z_bipush hx hb dX6_plan_25 (by decide) ?_
  refine z_icmp_gt (tgt := 42) hx hb dX6_plan_27 (by decide) (by omega) (fun c_27 => absurd c_27 (by omega)) (fun c_27 => ?_)
  refine lv_iload_n hx hb dX6_plan_30 rfl (lv_at hl 1 rfl) ?_
  refine z_iconst hx hb dX6_plan_31 ?_
  refine z_isub hx hb dX6_plan_32 ?_
  refine lv_iload_n hx hb dX6_plan_33 rfl (lv_at hl 2 rfl) ?_
  refine z_irem hx hb dX6_plan_34 (by omega) (by omega) ?_
  have hm_34 := z_rem (a := q - 1) (n := n) (by omega)
  refine z_if_ne (tgt := 42) hx hb dX6_plan_35 (by decide) (by omega) (fun c_35 => absurd c_35 (by exact not_not_intro hd_)) (fun c_35 => ?_)
  refine z_iconst hx hb dX6_plan_38 ?_
  refine lv_goto (tgt := 43) hx hb dX6_plan_39 (by decide) ?_
  refine lv_istore_n (lv' := [(3, .int (zI 1)), (0, .ref h0), (1, .int (zI q)), (2, .int (zI n))]) hx hb dX6_plan_43 rfl hl (by decide) rfl (fun ls hl => ?_)
  have hl := lv_sub hl [1, 2, 3, 0] rfl
  have hl : lv_has ls 5 [(0, .ref h0), (1, .int (zI q)), (2, .int (zI n)), (3, .int (zI 1))] := hl
  refine lv_aload_n hx hb dX6_plan_44 rfl (lv_at hl 0 rfl) ?_
  refine lv_iload_n hx hb dX6_plan_45 rfl (lv_at hl 3 rfl) ?_
  refine z_if_ne (tgt := 53) hx hb dX6_plan_46 (by decide) (by omega) (fun c_46 => ?_) (fun c_46 => absurd c_46 (by omega))
  refine lv_aload_n hx hb dX6_plan_53 rfl (lv_at hl 0 rfl) ?_
  refine va_get (D := D) (ci := 5) (C := RX6) (T := TX6) (N := 8) hx hb hts hi6 hown hK hP 0 rfl rfl 5 (by decide) (hts (.fieldLink RX6 32 "ButterflyYardModel" "plans" "I") (by decide +kernel)) (fun _ h9 => h9) rfl dX6_plan_54 ?_
  refine z_bipush hx hb dX6_plan_57 (by decide) ?_
  refine z_icmp_ne (tgt := 66) hx hb dX6_plan_59 (by decide) (by omega) (fun c_59 => ?_) (fun c_59 => absurd c_59 (by omega))
  refine z_iconst hx hb dX6_plan_66 ?_
  refine va_put (D := D) (ci := 5) (v := .int (zI 0)) (ty := .int) (C := RX6) (T := TX6) (N := 8) hx hb hts hi6 tyX6 tyX6_ok nmX6 hown hK hP hD hS 0 rfl rfl 7 (by decide) (hts (.fieldLink RX6 28 "ButterflyYardModel" "thrown" "I") (by decide +kernel)) (fun _ h9 => h9) rfl (by decide +kernel) rfl rfl (Nat.le_of_ble_eq_true rfl) dX6_plan_67 (fun H locs hP hD hS => ?_)
  have hP : va_P D vwCl [(h0, .inr (5, [.ref ae, .ref al, .ref ap, .ref az, .ref ar, .int (zI np), .ref am, .int (zI 0)])), (ap, .inl (cI, 8, .inl (zA xp))), (az, .inl (cI, 8, .inl (zA xz))), (ar, .inl (cI, 8, .inl (zA xr)))] H := hP
  have hD : va_D A [(h0, .inr (5, [.ref ae, .ref al, .ref ap, .ref az, .ref ar, .int (zI np), .ref am, .int (zI 0)])), (ap, .inl (cI, 8, .inl (zA xp))), (az, .inl (cI, 8, .inl (zA xz))), (ar, .inl (cI, 8, .inl (zA xr)))] := hD
  refine lv_aload_n hx hb dX6_plan_70 rfl (lv_at hl 0 rfl) ?_
  refine va_get (D := D) (ci := 5) (C := RX6) (T := TX6) (N := 8) hx hb hts hi6 hown hK hP 0 rfl rfl 7 (by decide) (hts (.fieldLink RX6 28 "ButterflyYardModel" "thrown" "I") (by decide +kernel)) (fun _ h9 => h9) rfl dX6_plan_71 ?_
  refine z_if_eq (tgt := 79) hx hb dX6_plan_74 (by decide) (by omega) (fun c_74 => ?_) (fun c_74 => absurd c_74 (by omega))
  refine z_iconst hx hb dX6_plan_79 ?_
  refine lv_istore (lv' := [(4, .int (zI 1)), (0, .ref h0), (1, .int (zI q)), (2, .int (zI n)), (3, .int (zI 1))]) hx hb dX6_plan_80 hl (by decide) rfl (fun ls hl => ?_)
  have hl := lv_sub hl [1, 2, 3, 4, 0] rfl
  have hl : lv_has ls 5 [(0, .ref h0), (1, .int (zI q)), (2, .int (zI n)), (3, .int (zI 1)), (4, .int (zI 1))] := hl
  refine z_loop (σ := Int) (fun g => (lpr q - g).toNat) (fun g H locs ls => (1 ≤ g ∧ g ≤ lpr q) ∧ va_P D vwCl [(h0, .inr (5, [.ref ae, .ref al, .ref ap, .ref az, .ref ar, .int (zI np), .ref am, .int (zI 0)])), (ap, .inl (cI, 8, .inl (zA xp))), (az, .inl (cI, 8, .inl (zA xz))), (ar, .inl (cI, 8, .inl (zA xr)))] H ∧ va_D A [(h0, .inr (5, [.ref ae, .ref al, .ref ap, .ref az, .ref ar, .int (zI np), .ref am, .int (zI 0)])), (ap, .inl (cI, 8, .inl (zA xp))), (az, .inl (cI, 8, .inl (zA xz))), (ar, .inl (cI, 8, .inl (zA xr)))] ∧ va_S A s.heap H locs ∧ lv_has ls 5 [(0, .ref h0), (1, .int (zI q)), (2, .int (zI n)), (3, .int (zI 1)), (4, .int (zI g))]) 1 ⟨(by omega), hP, hD, hS, hl⟩ ?_
  intro g H locs ls hI ih_82
  obtain ⟨hg_, hP, hD, hS, hl⟩ := hI
  refine lv_iload hx hb dX6_plan_82 (lv_at hl 4 rfl) ?_
  refine lv_iload_n hx hb dX6_plan_84 rfl (lv_at hl 1 rfl) ?_
  have hRc : va_P D vwCl [] H := z_nilP
  refine z_ro (ws := [(h0, .inr (5, [.ref ae, .ref al, .ref ap, .ref az, .ref ar, .int (zI np), .ref am, .int (zI 0)])), (ap, .inl (cI, 8, .inl (zA xp))), (az, .inl (cI, 8, .inl (zA xz))), (ar, .inl (cI, 8, .inl (zA xr)))]) (va_runS (As := [.int (zI g), .int (zI q)]) (rest := []) CF (c_X6_isPrimitive l D g q (by exact hPP) (by omega) H.size) (va_cwS 2 hts gX6_plan_X6_isPrimitive rfl rfl rfl (by decide +kernel) ⟨Nat.le_of_ble_eq_true rfl, Nat.le_of_ble_eq_true rfl⟩) (z_preS z_nilP (z_nilD (A := A)) hRc z_noX (hK.sub (tys' := []) [] rfl)) rfl rfl hl.1 rfl (lv_room (Nat.le_of_ble_eq_true rfl)) dX6_plan_85 ⟨Nat.le_of_ble_eq_true rfl, Nat.le_of_ble_eq_true rfl⟩) hP hS hA (cells' := 0) (slots' := 0) rfl rfl (fun H locs hP hS => ?_)
  refine z_ifB_ne (tgt := 97) hx hb dX6_plan_88 (by decide) (fun c_88 => ?_) (fun c_88 => ?_)
  · have hgl : g = lpr q := by rcases Int.lt_or_le g (lpr q) with z | z; (rw [lp5 g hg_.1 z] at c_88; exact absurd c_88 (by decide)); omega
    refine lv_aload_n hx hb dX6_plan_97 rfl (lv_at hl 0 rfl) ?_
    refine va_get (D := D) (ci := 5) (C := RX6) (T := TX6) (N := 8) hx hb hts hi6 hown hK hP 0 rfl rfl 2 (by decide) (hts (.fieldLink RX6 16 "ButterflyYardModel" "primes" "[I") (by decide +kernel)) (fun _ h9 => h9) rfl dX6_plan_98 ?_
    refine lv_aload_n hx hb dX6_plan_101 rfl (lv_at hl 0 rfl) ?_
    refine va_get (D := D) (ci := 5) (C := RX6) (T := TX6) (N := 8) hx hb hts hi6 hown hK hP 0 rfl rfl 5 (by decide) (hts (.fieldLink RX6 32 "ButterflyYardModel" "plans" "I") (by decide +kernel)) (fun _ h9 => h9) rfl dX6_plan_102 ?_
    refine lv_iload_n hx hb dX6_plan_105 rfl (lv_at hl 1 rfl) ?_
    refine z_iast (cA := cI) (n := 8) (g := xp) (i := np) (v := q) hx hb hK hP hD hS 1 0 rfl rfl rfl (by omega) dX6_plan_106 (fun H locs hP hD hS => ?_)
    have hP : va_P D vwCl [(h0, .inr (5, [.ref ae, .ref al, .ref ap, .ref az, .ref ar, .int (zI np), .ref am, .int (zI 0)])), (ap, .inl (cI, 8, .inl (zA (zU xp np q)))), (az, .inl (cI, 8, .inl (zA xz))), (ar, .inl (cI, 8, .inl (zA xr)))] H := hP
    have hD : va_D A [(h0, .inr (5, [.ref ae, .ref al, .ref ap, .ref az, .ref ar, .int (zI np), .ref am, .int (zI 0)])), (ap, .inl (cI, 8, .inl (zA (zU xp np q)))), (az, .inl (cI, 8, .inl (zA xz))), (ar, .inl (cI, 8, .inl (zA xr)))] := hD
    refine lv_aload_n hx hb dX6_plan_107 rfl (lv_at hl 0 rfl) ?_
    refine va_get (D := D) (ci := 5) (C := RX6) (T := TX6) (N := 8) hx hb hts hi6 hown hK hP 0 rfl rfl 3 (by decide) (hts (.fieldLink RX6 19 "ButterflyYardModel" "sizes" "[I") (by decide +kernel)) (fun _ h9 => h9) rfl dX6_plan_108 ?_
    refine lv_aload_n hx hb dX6_plan_111 rfl (lv_at hl 0 rfl) ?_
    refine va_get (D := D) (ci := 5) (C := RX6) (T := TX6) (N := 8) hx hb hts hi6 hown hK hP 0 rfl rfl 5 (by decide) (hts (.fieldLink RX6 32 "ButterflyYardModel" "plans" "I") (by decide +kernel)) (fun _ h9 => h9) rfl dX6_plan_112 ?_
    refine lv_iload_n hx hb dX6_plan_115 rfl (lv_at hl 2 rfl) ?_
    refine z_iast (cA := cI) (n := 8) (g := xz) (i := np) (v := n) hx hb hK hP hD hS 2 0 rfl rfl rfl (by omega) dX6_plan_116 (fun H locs hP hD hS => ?_)
    have hP : va_P D vwCl [(h0, .inr (5, [.ref ae, .ref al, .ref ap, .ref az, .ref ar, .int (zI np), .ref am, .int (zI 0)])), (ap, .inl (cI, 8, .inl (zA (zU xp np q)))), (az, .inl (cI, 8, .inl (zA (zU xz np n)))), (ar, .inl (cI, 8, .inl (zA xr)))] H := hP
    have hD : va_D A [(h0, .inr (5, [.ref ae, .ref al, .ref ap, .ref az, .ref ar, .int (zI np), .ref am, .int (zI 0)])), (ap, .inl (cI, 8, .inl (zA (zU xp np q)))), (az, .inl (cI, 8, .inl (zA (zU xz np n)))), (ar, .inl (cI, 8, .inl (zA xr)))] := hD
    refine lv_aload_n hx hb dX6_plan_117 rfl (lv_at hl 0 rfl) ?_
    refine va_get (D := D) (ci := 5) (C := RX6) (T := TX6) (N := 8) hx hb hts hi6 hown hK hP 0 rfl rfl 4 (by decide) (hts (.fieldLink RX6 22 "ButterflyYardModel" "roots" "[I") (by decide +kernel)) (fun _ h9 => h9) rfl dX6_plan_118 ?_
    refine lv_aload_n hx hb dX6_plan_121 rfl (lv_at hl 0 rfl) ?_
    refine va_get (D := D) (ci := 5) (C := RX6) (T := TX6) (N := 8) hx hb hts hi6 hown hK hP 0 rfl rfl 5 (by decide) (hts (.fieldLink RX6 32 "ButterflyYardModel" "plans" "I") (by decide +kernel)) (fun _ h9 => h9) rfl dX6_plan_122 ?_
    refine lv_iload hx hb dX6_plan_125 (lv_at hl 4 rfl) ?_
    refine lv_iload_n hx hb dX6_plan_127 rfl (lv_at hl 1 rfl) ?_
    refine z_iconst hx hb dX6_plan_128 ?_
    refine z_isub hx hb dX6_plan_129 ?_
    refine lv_iload_n hx hb dX6_plan_130 rfl (lv_at hl 2 rfl) ?_
    refine z_idiv hx hb dX6_plan_131 (by omega) (by omega) ?_
    have hdv := z_div (a := q - 1) (b := n) (A := 10000) (by omega) (by omega) (by omega)
    refine lv_iload_n hx hb dX6_plan_132 rfl (lv_at hl 1 rfl) ?_
    have hRc : va_P D vwCl [] H := z_nilP
    refine z_ro (ws := [(h0, .inr (5, [.ref ae, .ref al, .ref ap, .ref az, .ref ar, .int (zI np), .ref am, .int (zI 0)])), (ap, .inl (cI, 8, .inl (zA (zU xp np q)))), (az, .inl (cI, 8, .inl (zA (zU xz np n)))), (ar, .inl (cI, 8, .inl (zA xr)))]) (va_runS (As := [.int (zI g), .int (zI ((q - 1) / n)), .int (zI q)]) (rest := [.int (zI np), .ref ar]) CF (c_X6_power l D g ((q - 1) / n) q (by omega) (by omega) (by omega) H.size) (va_cwS 3 hts gX6_plan_X6_power rfl rfl rfl (by decide +kernel) ⟨Nat.le_of_ble_eq_true rfl, Nat.le_of_ble_eq_true rfl⟩) (z_preS z_nilP (z_nilD (A := A)) hRc z_noX (hK.sub (tys' := []) [] rfl)) rfl rfl hl.1 rfl (lv_room (Nat.le_of_ble_eq_true rfl)) dX6_plan_133 ⟨Nat.le_of_ble_eq_true rfl, Nat.le_of_ble_eq_true rfl⟩) hP hS hA (cells' := 0) (slots' := 0) rfl rfl (fun H locs hP hS => ?_)
    refine z_eqI (b := zRoot q n) (by rw [hgl]; rfl) ?_
    refine z_iast (cA := cI) (n := 8) (g := xr) (i := np) (v := zRoot q n) hx hb hK hP hD hS 3 0 rfl rfl rfl (by omega) dX6_plan_136 (fun H locs hP hD hS => ?_)
    have hP : va_P D vwCl [(h0, .inr (5, [.ref ae, .ref al, .ref ap, .ref az, .ref ar, .int (zI np), .ref am, .int (zI 0)])), (ap, .inl (cI, 8, .inl (zA (zU xp np q)))), (az, .inl (cI, 8, .inl (zA (zU xz np n)))), (ar, .inl (cI, 8, .inl (zA (zU xr np (zRoot q n)))))] H := hP
    have hD : va_D A [(h0, .inr (5, [.ref ae, .ref al, .ref ap, .ref az, .ref ar, .int (zI np), .ref am, .int (zI 0)])), (ap, .inl (cI, 8, .inl (zA (zU xp np q)))), (az, .inl (cI, 8, .inl (zA (zU xz np n)))), (ar, .inl (cI, 8, .inl (zA (zU xr np (zRoot q n)))))] := hD
    refine lv_aload_n hx hb dX6_plan_137 rfl (lv_at hl 0 rfl) ?_
    refine lv_dup hx hb dX6_plan_138 rfl ?_
    refine va_get (D := D) (ci := 5) (C := RX6) (T := TX6) (N := 8) hx hb hts hi6 hown hK hP 0 rfl rfl 5 (by decide) (hts (.fieldLink RX6 32 "ButterflyYardModel" "plans" "I") (by decide +kernel)) (fun _ h9 => h9) rfl dX6_plan_139 ?_
    refine z_iconst hx hb dX6_plan_142 ?_
    refine z_iadd hx hb dX6_plan_143 ?_
    refine va_put (D := D) (ci := 5) (v := .int (zI (np + 1))) (ty := .int) (C := RX6) (T := TX6) (N := 8) hx hb hts hi6 tyX6 tyX6_ok nmX6 hown hK hP hD hS 0 rfl rfl 5 (by decide) (hts (.fieldLink RX6 32 "ButterflyYardModel" "plans" "I") (by decide +kernel)) (fun _ h9 => h9) rfl (by decide +kernel) rfl rfl (Nat.le_of_ble_eq_true rfl) dX6_plan_144 (fun H locs hP hD hS => ?_)
    have hP : va_P D vwCl [(h0, .inr (5, [.ref ae, .ref al, .ref ap, .ref az, .ref ar, .int (zI (np + 1)), .ref am, .int (zI 0)])), (ap, .inl (cI, 8, .inl (zA (zU xp np q)))), (az, .inl (cI, 8, .inl (zA (zU xz np n)))), (ar, .inl (cI, 8, .inl (zA (zU xr np (zRoot q n)))))] H := hP
    have hD : va_D A [(h0, .inr (5, [.ref ae, .ref al, .ref ap, .ref az, .ref ar, .int (zI (np + 1)), .ref am, .int (zI 0)])), (ap, .inl (cI, 8, .inl (zA (zU xp np q)))), (az, .inl (cI, 8, .inl (zA (zU xz np n)))), (ar, .inl (cI, 8, .inl (zA (zU xr np (zRoot q n)))))] := hD
    refine lv_aload_n hx hb dX6_plan_147 rfl (lv_at hl 0 rfl) ?_
    refine va_get (D := D) (ci := 5) (C := RX6) (T := TX6) (N := 8) hx hb hts hi6 hown hK hP 0 rfl rfl 5 (by decide) (hts (.fieldLink RX6 32 "ButterflyYardModel" "plans" "I") (by decide +kernel)) (fun _ h9 => h9) rfl dX6_plan_148 ?_
    refine z_iconst hx hb dX6_plan_151 ?_
    refine z_isub hx hb dX6_plan_152 ?_
    have hres : np = (np + 1) - 1 := by omega
    exact z_iret hx hb hr hlocks rfl () (congrArg (fun z => some (Value.int (zI z))) hres) (trivial) hP hD hS dX6_plan_153
  · refine lv_iinc (v := zI (g + 1)) (lv' := [(4, .int (zI (g + 1))), (0, .ref h0), (1, .int (zI q)), (2, .int (zI n)), (3, .int (zI 1))]) hx hb dX6_plan_91 hl (k := 4) rfl (zI_add _ _) (by decide) rfl (fun ls hl => ?_)
    have hl := lv_sub hl [1, 2, 3, 4, 0] rfl
    have hl : lv_has ls 5 [(0, .ref h0), (1, .int (zI q)), (2, .int (zI n)), (3, .int (zI 1)), (4, .int (zI (g + 1)))] := hl
    refine lv_goto (tgt := 82) hx hb dX6_plan_94 (by decide) ?_
    exact ih_82 (g + 1) _ _ _ ⟨(by have z9 : g ≠ lpr q := (fun z => c_88 (by rw [z]; exact lp4)); omega), hP, hD, hS, hl⟩ (by show (lpr q - (g + 1)).toNat < (lpr q - g).toNat; have z9 : g ≠ lpr q := (fun z => c_88 (by rw [z]; exact lp4)); omega)

set_option maxHeartbeats 4000000 in
set_option maxRecDepth 100000 in
theorem c_X6_plans (l : Launch) (D : va_G) (h0 : Nat) (ae : Nat) (al : Nat) (ap : Nat) (az : Nat) (ar : Nat) (am : Nat) (np : Int) (th : Int) : zC l yX6_plans wsX6_plans ({ frames := 0, cells := 0, slots := 0, locals := 0 } : Room) D [] [(h0, .inr (5, [.ref ae, .ref al, .ref ap, .ref az, .ref ar, .int (zI np), .ref am, .int (zI th)]))] [] [.ref h0] (S := Unit) (fun u => True) (fun u => some (.int (zI np))) (fun u => [(h0, .inr (5, [.ref ae, .ref al, .ref ap, .ref az, .ref ar, .int (zI np), .ref am, .int (zI 0)]))]) := by
  refine z_start (cc := cX6_plans) (maxL := 1) (ret := (some .int)) (own := RX6) (by decide) rfl rfl (Nat.le_of_ble_eq_true rfl) [(0, .ref h0)] rfl ?_
  intro pp ee s mm below meth cc A H ls hx hb hr hml hts hown hlocks hin hK hA hP hD hS hR0 hR hl
  have CF : CallFix pp mm cc cX6_plans 1 s ([.ref h0] : List Value).toArray wsX6_plans RX6 := ⟨hx, hb, hml, hown, hts⟩
  have hi6 : ∀ w ∈ wsX60, w ∈ wsX6_plans := by decide +kernel
  refine lv_aload_n hx hb dX6_plans_0 rfl (lv_at hl 0 rfl) ?_
  refine z_iconst hx hb dX6_plans_1 ?_
  refine va_put (D := D) (ci := 5) (v := .int (zI 0)) (ty := .int) (C := RX6) (T := TX6) (N := 8) hx hb hts hi6 tyX6 tyX6_ok nmX6 hown hK hP hD hS 0 rfl rfl 7 (by decide) (hts (.fieldLink RX6 28 "ButterflyYardModel" "thrown" "I") (by decide +kernel)) (fun _ h9 => h9) rfl (by decide +kernel) rfl rfl (Nat.le_of_ble_eq_true rfl) dX6_plans_2 (fun H locs hP hD hS => ?_)
  have hP : va_P D vwCl [(h0, .inr (5, [.ref ae, .ref al, .ref ap, .ref az, .ref ar, .int (zI np), .ref am, .int (zI 0)]))] H := hP
  have hD : va_D A [(h0, .inr (5, [.ref ae, .ref al, .ref ap, .ref az, .ref ar, .int (zI np), .ref am, .int (zI 0)]))] := hD
  refine lv_aload_n hx hb dX6_plans_5 rfl (lv_at hl 0 rfl) ?_
  refine va_get (D := D) (ci := 5) (C := RX6) (T := TX6) (N := 8) hx hb hts hi6 hown hK hP 0 rfl rfl 5 (by decide) (hts (.fieldLink RX6 32 "ButterflyYardModel" "plans" "I") (by decide +kernel)) (fun _ h9 => h9) rfl dX6_plans_6 ?_
  exact z_iret hx hb hr hlocks rfl () (rfl) (trivial) hP hD hS dX6_plans_9

set_option maxHeartbeats 4000000 in
set_option maxRecDepth 100000 in
theorem c_X6_root_1 (l : Launch) (D : va_G) (cI : ClassId) (h0 : Nat) (ae : Nat) (al : Nat) (ap : Nat) (az : Nat) (ar : Nat) (am : Nat) (np : Int) (th : Int) (i : Int) (ha_i : -2147483648 ≤ i ∧ i ≤ 2147483647) (hnp_ : 0 ≤ np ∧ np ≤ 8) (hi0 : ¬ (0 ≤ i ∧ i < np)) : zC l yX6_root wsX6_root ({ frames := 1, cells := 0, slots := 0, locals := 21 } : Room) D [(cI, .int)] [(h0, .inr (5, [.ref ae, .ref al, .ref ap, .ref az, .ref ar, .int (zI np), .ref am, .int (zI th)]))] [] [.ref h0, .int (zI i)] (S := Unit) (fun u => True) (fun u => some (.int (zI 0))) (fun u => [(h0, .inr (5, [.ref ae, .ref al, .ref ap, .ref az, .ref ar, .int (zI np), .ref am, .int (zI 1)]))]) := by
  refine z_start (cc := cX6_root) (maxL := 2) (ret := (some .int)) (own := RX6) (by decide) rfl rfl (Nat.le_of_ble_eq_true rfl) [(0, .ref h0), (1, .int (zI i))] rfl ?_
  intro pp ee s mm below meth cc A H ls hx hb hr hml hts hown hlocks hin hK hA hP hD hS hR0 hR hl
  have CF : CallFix pp mm cc cX6_root 2 s ([.ref h0, .int (zI i)] : List Value).toArray wsX6_root RX6 := ⟨hx, hb, hml, hown, hts⟩
  have hi6 : ∀ w ∈ wsX60, w ∈ wsX6_root := by decide +kernel
  refine lv_aload_n hx hb dX6_root_0 rfl (lv_at hl 0 rfl) ?_
  refine lv_aload_n hx hb dX6_root_1 rfl (lv_at hl 0 rfl) ?_
  refine lv_iload_n hx hb dX6_root_2 rfl (lv_at hl 1 rfl) ?_
  have hRc := z_subR (ws := [(h0, .inr (5, [.ref ae, .ref al, .ref ap, .ref az, .ref ar, .int (zI np), .ref am, .int (zI th)]))]) (rs := []) (rc := [(h0, .inr (5, [.ref ae, .ref al, .ref ap, .ref az, .ref ar, .int (zI np), .ref am, .int (zI th)]))]) hP z_nilP (isR := [0]) rfl
  refine z_ro (ws := [(h0, .inr (5, [.ref ae, .ref al, .ref ap, .ref az, .ref ar, .int (zI np), .ref am, .int (zI th)]))]) (va_runV (As := [.int (zI i)]) (rest := [.ref h0]) CF (c_X6_isPlan l D h0 ae al ap az ar am np th i (by omega) (by omega) H.size) (cwV 1 hts gX6_root_X6_isPlan rfl rfl rfl (by decide +kernel) ⟨Nat.le_of_ble_eq_true rfl, Nat.le_of_ble_eq_true rfl⟩) (z_preV (va_recv hK hP (ci := 5) (q0 := 0) rfl rfl) z_nilP (z_nilD (A := A)) hRc z_noX (hK.sub (tys' := []) [] rfl)) rfl rfl hl.1 rfl (lv_room (Nat.le_of_ble_eq_true rfl)) dX6_root_3 ⟨Nat.le_of_ble_eq_true rfl, Nat.le_of_ble_eq_true rfl⟩) hP hS hA (cells' := 0) (slots' := 0) rfl rfl (fun H locs hP hS => ?_)
  refine z_ifB_eq (tgt := 13) hx hb dX6_root_6 (by decide) (fun c_6 => ?_) (fun c_6 => absurd c_6 (by omega))
  refine z_iconst hx hb dX6_root_13 ?_
  refine va_put (D := D) (ci := 5) (v := .int (zI 1)) (ty := .int) (C := RX6) (T := TX6) (N := 8) hx hb hts hi6 tyX6 tyX6_ok nmX6 hown hK hP hD hS 0 rfl rfl 7 (by decide) (hts (.fieldLink RX6 28 "ButterflyYardModel" "thrown" "I") (by decide +kernel)) (fun _ h9 => h9) rfl (by decide +kernel) rfl rfl (Nat.le_of_ble_eq_true rfl) dX6_root_14 (fun H locs hP hD hS => ?_)
  have hP : va_P D vwCl [(h0, .inr (5, [.ref ae, .ref al, .ref ap, .ref az, .ref ar, .int (zI np), .ref am, .int (zI 1)]))] H := hP
  have hD : va_D A [(h0, .inr (5, [.ref ae, .ref al, .ref ap, .ref az, .ref ar, .int (zI np), .ref am, .int (zI 1)]))] := hD
  refine lv_aload_n hx hb dX6_root_17 rfl (lv_at hl 0 rfl) ?_
  refine va_get (D := D) (ci := 5) (C := RX6) (T := TX6) (N := 8) hx hb hts hi6 hown hK hP 0 rfl rfl 7 (by decide) (hts (.fieldLink RX6 28 "ButterflyYardModel" "thrown" "I") (by decide +kernel)) (fun _ h9 => h9) rfl dX6_root_18 ?_
  refine z_if_ne (tgt := 33) hx hb dX6_root_21 (by decide) (by omega) (fun c_21 => ?_) (fun c_21 => absurd c_21 (by omega))
  refine z_iconst hx hb dX6_root_33 ?_
  exact z_iret hx hb hr hlocks rfl () (rfl) (trivial) hP hD hS dX6_root_34

set_option maxHeartbeats 4000000 in
set_option maxRecDepth 100000 in
theorem c_X6_root_ok (l : Launch) (D : va_G) (cI : ClassId) (h0 : Nat) (ae : Nat) (al : Nat) (ap : Nat) (az : Nat) (ar : Nat) (am : Nat) (np : Int) (th : Int) (xr : Int → Int) (i : Int) (ha_i : -2147483648 ≤ i ∧ i ≤ 2147483647) (hnp_ : 0 ≤ np ∧ np ≤ 8) (hi0 : 0 ≤ i ∧ i < np) : zC l yX6_root wsX6_root ({ frames := 1, cells := 0, slots := 0, locals := 21 } : Room) D [(cI, .int)] [(h0, .inr (5, [.ref ae, .ref al, .ref ap, .ref az, .ref ar, .int (zI np), .ref am, .int (zI th)]))] [(ar, .inl (cI, 8, .inl (zA xr)))] [.ref h0, .int (zI i)] (S := Unit) (fun u => True) (fun u => some (.int (zI (xr i)))) (fun u => [(h0, .inr (5, [.ref ae, .ref al, .ref ap, .ref az, .ref ar, .int (zI np), .ref am, .int (zI 0)]))]) := by
  refine z_start (cc := cX6_root) (maxL := 2) (ret := (some .int)) (own := RX6) (by decide) rfl rfl (Nat.le_of_ble_eq_true rfl) [(0, .ref h0), (1, .int (zI i))] rfl ?_
  intro pp ee s mm below meth cc A H ls hx hb hr hml hts hown hlocks hin hK hA hP hD hS hR0 hR hl
  have CF : CallFix pp mm cc cX6_root 2 s ([.ref h0, .int (zI i)] : List Value).toArray wsX6_root RX6 := ⟨hx, hb, hml, hown, hts⟩
  have hi6 : ∀ w ∈ wsX60, w ∈ wsX6_root := by decide +kernel
  refine lv_aload_n hx hb dX6_root_0 rfl (lv_at hl 0 rfl) ?_
  refine lv_aload_n hx hb dX6_root_1 rfl (lv_at hl 0 rfl) ?_
  refine lv_iload_n hx hb dX6_root_2 rfl (lv_at hl 1 rfl) ?_
  have hRc := z_subR (ws := [(h0, .inr (5, [.ref ae, .ref al, .ref ap, .ref az, .ref ar, .int (zI np), .ref am, .int (zI th)]))]) (rs := [(ar, .inl (cI, 8, .inl (zA xr)))]) (rc := [(h0, .inr (5, [.ref ae, .ref al, .ref ap, .ref az, .ref ar, .int (zI np), .ref am, .int (zI th)]))]) hP hR (isR := [0]) rfl
  refine z_ro (ws := [(h0, .inr (5, [.ref ae, .ref al, .ref ap, .ref az, .ref ar, .int (zI np), .ref am, .int (zI th)]))]) (va_runV (As := [.int (zI i)]) (rest := [.ref h0]) CF (c_X6_isPlan l D h0 ae al ap az ar am np th i (by omega) (by omega) H.size) (cwV 1 hts gX6_root_X6_isPlan rfl rfl rfl (by decide +kernel) ⟨Nat.le_of_ble_eq_true rfl, Nat.le_of_ble_eq_true rfl⟩) (z_preV (va_recv hK hP (ci := 5) (q0 := 0) rfl rfl) z_nilP (z_nilD (A := A)) hRc z_noX (hK.sub (tys' := []) [] rfl)) rfl rfl hl.1 rfl (lv_room (Nat.le_of_ble_eq_true rfl)) dX6_root_3 ⟨Nat.le_of_ble_eq_true rfl, Nat.le_of_ble_eq_true rfl⟩) hP hS hA (cells' := 0) (slots' := 0) rfl rfl (fun H locs hP hS => ?_)
  have hR := hR0.at hS
  refine z_ifB_eq (tgt := 13) hx hb dX6_root_6 (by decide) (fun c_6 => absurd c_6 (by omega)) (fun c_6 => ?_)
  refine z_iconst hx hb dX6_root_9 ?_
  refine lv_goto (tgt := 14) hx hb dX6_root_10 (by decide) ?_
  refine va_put (D := D) (ci := 5) (v := .int (zI 0)) (ty := .int) (C := RX6) (T := TX6) (N := 8) hx hb hts hi6 tyX6 tyX6_ok nmX6 hown hK hP hD hS 0 rfl rfl 7 (by decide) (hts (.fieldLink RX6 28 "ButterflyYardModel" "thrown" "I") (by decide +kernel)) (fun _ h9 => h9) rfl (by decide +kernel) rfl rfl (Nat.le_of_ble_eq_true rfl) dX6_root_14 (fun H locs hP hD hS => ?_)
  have hP : va_P D vwCl [(h0, .inr (5, [.ref ae, .ref al, .ref ap, .ref az, .ref ar, .int (zI np), .ref am, .int (zI 0)]))] H := hP
  have hD : va_D A [(h0, .inr (5, [.ref ae, .ref al, .ref ap, .ref az, .ref ar, .int (zI np), .ref am, .int (zI 0)]))] := hD
  have hR := hR0.at hS
  refine lv_aload_n hx hb dX6_root_17 rfl (lv_at hl 0 rfl) ?_
  refine va_get (D := D) (ci := 5) (C := RX6) (T := TX6) (N := 8) hx hb hts hi6 hown hK hP 0 rfl rfl 7 (by decide) (hts (.fieldLink RX6 28 "ButterflyYardModel" "thrown" "I") (by decide +kernel)) (fun _ h9 => h9) rfl dX6_root_18 ?_
  refine z_if_ne (tgt := 33) hx hb dX6_root_21 (by decide) (by omega) (fun c_21 => absurd c_21 (by omega)) (fun c_21 => ?_)
  refine lv_aload_n hx hb dX6_root_24 rfl (lv_at hl 0 rfl) ?_
  refine va_get (D := D) (ci := 5) (C := RX6) (T := TX6) (N := 8) hx hb hts hi6 hown hK hP 0 rfl rfl 4 (by decide) (hts (.fieldLink RX6 22 "ButterflyYardModel" "roots" "[I") (by decide +kernel)) (fun _ h9 => h9) rfl dX6_root_25 ?_
  refine lv_iload_n hx hb dX6_root_28 rfl (lv_at hl 1 rfl) ?_
  refine z_iald (cA := cI) (n := 8) (g := xr) hx hb hK hR 0 0 rfl rfl rfl (by omega) dX6_root_29 ?_
  refine lv_goto (tgt := 34) hx hb dX6_root_30 (by decide) ?_
  exact z_iret hx hb hr hlocks rfl () (rfl) (trivial) hP hD hS dX6_root_34

set_option maxHeartbeats 4000000 in
set_option maxRecDepth 100000 in
theorem c_X6_waySet (l : Launch) (D : va_G) (cI : ClassId) (h0 : Nat) (ae : Nat) (al : Nat) (ap : Nat) (az : Nat) (ar : Nat) (am : Nat) (np : Int) (th : Int) (xz : Int → Int) (i : Int) (hnp_ : 0 ≤ np ∧ np ≤ 8) (hi0 : 0 ≤ i ∧ i < np) (hz_ : 1 ≤ xz i ∧ xz i ≤ 64) : zF l yX6_waySet wsX6_waySet ({ frames := 1, cells := 0, slots := 0, locals := 22 } : Room) D [(cI, .int)] [(h0, .inr (5, [.ref ae, .ref al, .ref ap, .ref az, .ref ar, .int (zI np), .ref am, .int (zI th)])), (az, .inl (cI, 8, .inl (zA xz)))] [.ref h0, .int (zI i)] (some (.int (zI (wset (xz i))))) := by
  refine z_start (cc := cX6_waySet) (maxL := 5) (ret := (some .int)) (own := RX6) (by decide) rfl rfl (Nat.le_of_ble_eq_true rfl) [(0, .ref h0), (1, .int (zI i))] rfl ?_
  intro pp ee s mm below meth cc A H ls hx hb hr hml hts hown hlocks hin hK hA hP hD hS hR0 hR hl
  have CF : CallFix pp mm cc cX6_waySet 5 s ([.ref h0, .int (zI i)] : List Value).toArray wsX6_waySet RX6 := ⟨hx, hb, hml, hown, hts⟩
  have hi6 : ∀ w ∈ wsX60, w ∈ wsX6_waySet := by decide +kernel
  refine lv_aload_n hx hb dX6_waySet_0 rfl (lv_at hl 0 rfl) ?_
  refine va_get (D := D) (ci := 5) (C := RX6) (T := TX6) (N := 8) hx hb hts hi6 hown hK hR 0 rfl rfl 3 (by decide) (hts (.fieldLink RX6 19 "ButterflyYardModel" "sizes" "[I") (by decide +kernel)) (fun _ h9 => h9) rfl dX6_waySet_1 ?_
  refine lv_iload_n hx hb dX6_waySet_4 rfl (lv_at hl 1 rfl) ?_
  refine z_iald (cA := cI) (n := 8) (g := xz) hx hb hK hR 1 0 rfl rfl rfl (by omega) dX6_waySet_5 ?_
  refine lv_istore_n (lv' := [(2, .int (zI (xz i))), (0, .ref h0), (1, .int (zI i))]) hx hb dX6_waySet_6 rfl hl (by decide) rfl (fun ls hl => ?_)
  have hl := lv_sub hl [1, 2, 0] rfl
  have hl : lv_has ls 5 [(0, .ref h0), (1, .int (zI i)), (2, .int (zI (xz i)))] := hl
  refine z_iconst hx hb dX6_waySet_7 ?_
  refine lv_istore_n (lv' := [(3, .int (zI 0)), (0, .ref h0), (1, .int (zI i)), (2, .int (zI (xz i)))]) hx hb dX6_waySet_8 rfl hl (by decide) rfl (fun ls hl => ?_)
  have hl := lv_sub hl [1, 2, 3, 0] rfl
  have hl : lv_has ls 5 [(0, .ref h0), (1, .int (zI i)), (2, .int (zI (xz i))), (3, .int (zI 0))] := hl
  refine z_iconst hx hb dX6_waySet_9 ?_
  refine lv_istore (lv' := [(4, .int (zI 2)), (0, .ref h0), (1, .int (zI i)), (2, .int (zI (xz i))), (3, .int (zI 0))]) hx hb dX6_waySet_10 hl (by decide) rfl (fun ls hl => ?_)
  have hl := lv_sub hl [1, 2, 3, 4, 0] rfl
  have hl : lv_has ls 5 [(0, .ref h0), (1, .int (zI i)), (2, .int (zI (xz i))), (3, .int (zI 0)), (4, .int (zI 2))] := hl
  refine z_loop (σ := Int × Int) (fun (t, d) => (65 - d).toNat) (fun (t, d) H locs ls => (2 ≤ d ∧ d ≤ 65) ∧ d ≤ max 2 (xz i + 1) ∧ t = cntI (xz i) d ∧ va_S A s.heap H locs ∧ lv_has ls 5 [(0, .ref h0), (1, .int (zI i)), (2, .int (zI (xz i))), (3, .int (zI t)), (4, .int (zI d))]) (0, 2) ⟨(by omega), (by omega), (by exact (cntI_2 _).symm), hS, hl⟩ ?_
  intro ⟨t, d⟩ H locs ls hI ih_12
  obtain ⟨hd_, hd2, ht_, hS, hl⟩ := hI
  have hR := hR0.at hS
  have hcr := cntI_rng (xz i) d
  refine lv_iload hx hb dX6_waySet_12 (lv_at hl 4 rfl) ?_
  refine lv_iload_n hx hb dX6_waySet_14 rfl (lv_at hl 2 rfl) ?_
  refine z_icmp_gt (tgt := 47) hx hb dX6_waySet_15 (by decide) (by omega) (fun c_15 => ?_) (fun c_15 => ?_)
  · have hcl := cnt_lpp (n := xz i) (by omega) (by omega)
    have hte : 1 < t ↔ lpp (xz i) < xz i := by rcases Int.lt_or_le (xz i) 2 with z | z; (have e1 : xz i = 1 := by omega); (rw [e1] at hcl ⊢; rw [ht_, show d = 1 + 1 by omega]; exact hcl); (rw [← hcl, ht_, show d = xz i + 1 by omega])
    refine z_bipush hx hb dX6_waySet_47 (by decide) ?_
    refine lv_iload_n hx hb dX6_waySet_49 rfl (lv_at hl 3 rfl) ?_
    refine z_iconst hx hb dX6_waySet_50 ?_
    refine z_icmp_le (tgt := 58) hx hb dX6_waySet_51 (by decide) (by omega) (fun c_51 => ?_) (fun c_51 => ?_)
    · refine z_iconst hx hb dX6_waySet_58 ?_
      refine z_iadd hx hb dX6_waySet_59 ?_
      refine lv_iload_n hx hb dX6_waySet_60 rfl (lv_at hl 2 rfl) ?_
      refine z_iconst hx hb dX6_waySet_61 ?_
      refine z_icmp_le (tgt := 77) hx hb dX6_waySet_62 (by decide) (by omega) (fun c_62 => ?_) (fun c_62 => ?_)
      · refine z_iconst hx hb dX6_waySet_77 ?_
        refine z_iadd hx hb dX6_waySet_78 ?_
        have hres : wset (xz i) = (19 + 0) + 0 := by unfold wset; first | (rw [if_pos (hte.mp c_51), if_pos ⟨c_62, c_69⟩]; done) | (rw [if_pos (hte.mp c_51), if_neg (fun q => c_69 q.2)]; done) | (rw [if_pos (hte.mp c_51), if_neg (fun q => absurd q.1 (by omega))]; done) | (rw [if_neg (fun q => absurd (hte.mpr q) (by omega)), if_pos ⟨c_62, c_69⟩]; done) | (rw [if_neg (fun q => absurd (hte.mpr q) (by omega)), if_neg (fun q => c_69 q.2)]; done) | (rw [if_neg (fun q => absurd (hte.mpr q) (by omega)), if_neg (fun q => absurd q.1 (by omega))]; done)
        exact z_iret hx hb hr hlocks rfl () (congrArg (fun z => some (Value.int (zI z))) hres) (trivial) z_nilP z_nilD hS dX6_waySet_79
      · refine lv_iload_n hx hb dX6_waySet_65 rfl (lv_at hl 2 rfl) ?_
        have hRc : va_P D vwCl [] H := z_nilP
        refine z_ro (ws := []) (va_runS (As := [.int (zI (xz i))]) (rest := [.int (zI (19 + 0))]) CF (c_X6_isPrime l D (xz i) (by omega) H.size) (va_cwS 1 hts gX6_waySet_X6_isPrime rfl rfl rfl (by decide +kernel) ⟨Nat.le_of_ble_eq_true rfl, Nat.le_of_ble_eq_true rfl⟩) (z_preS z_nilP (z_nilD (A := A)) hRc z_noX (hK.sub (tys' := []) [] rfl)) rfl rfl hl.1 rfl (lv_room (Nat.le_of_ble_eq_true rfl)) dX6_waySet_66 ⟨Nat.le_of_ble_eq_true rfl, Nat.le_of_ble_eq_true rfl⟩) z_nilP hS hA (cells' := 0) (slots' := 0) rfl rfl (fun H locs hP hS => ?_)
        have hR := hR0.at hS
        refine z_ifB_eq (tgt := 77) hx hb dX6_waySet_69 (by decide) (fun c_69 => ?_) (fun c_69 => ?_)
        · refine z_iconst hx hb dX6_waySet_77 ?_
          refine z_iadd hx hb dX6_waySet_78 ?_
          have hres : wset (xz i) = (19 + 0) + 0 := by unfold wset; first | (rw [if_pos (hte.mp c_51), if_pos ⟨c_62, c_69⟩]; done) | (rw [if_pos (hte.mp c_51), if_neg (fun q => c_69 q.2)]; done) | (rw [if_pos (hte.mp c_51), if_neg (fun q => absurd q.1 (by omega))]; done) | (rw [if_neg (fun q => absurd (hte.mpr q) (by omega)), if_pos ⟨c_62, c_69⟩]; done) | (rw [if_neg (fun q => absurd (hte.mpr q) (by omega)), if_neg (fun q => c_69 q.2)]; done) | (rw [if_neg (fun q => absurd (hte.mpr q) (by omega)), if_neg (fun q => absurd q.1 (by omega))]; done)
          exact z_iret hx hb hr hlocks rfl () (congrArg (fun z => some (Value.int (zI z))) hres) (trivial) z_nilP z_nilD hS dX6_waySet_79
        · refine z_bipush hx hb dX6_waySet_72 (by decide) ?_
          refine lv_goto (tgt := 78) hx hb dX6_waySet_74 (by decide) ?_
          refine z_iadd hx hb dX6_waySet_78 ?_
          have hres : wset (xz i) = (19 + 0) + 8 := by unfold wset; first | (rw [if_pos (hte.mp c_51), if_pos ⟨c_62, c_69⟩]; done) | (rw [if_pos (hte.mp c_51), if_neg (fun q => c_69 q.2)]; done) | (rw [if_pos (hte.mp c_51), if_neg (fun q => absurd q.1 (by omega))]; done) | (rw [if_neg (fun q => absurd (hte.mpr q) (by omega)), if_pos ⟨c_62, c_69⟩]; done) | (rw [if_neg (fun q => absurd (hte.mpr q) (by omega)), if_neg (fun q => c_69 q.2)]; done) | (rw [if_neg (fun q => absurd (hte.mpr q) (by omega)), if_neg (fun q => absurd q.1 (by omega))]; done)
          exact z_iret hx hb hr hlocks rfl () (congrArg (fun z => some (Value.int (zI z))) hres) (trivial) z_nilP z_nilD hS dX6_waySet_79
    · refine z_iconst hx hb dX6_waySet_54 ?_
      refine lv_goto (tgt := 59) hx hb dX6_waySet_55 (by decide) ?_
      refine z_iadd hx hb dX6_waySet_59 ?_
      refine lv_iload_n hx hb dX6_waySet_60 rfl (lv_at hl 2 rfl) ?_
      refine z_iconst hx hb dX6_waySet_61 ?_
      refine z_icmp_le (tgt := 77) hx hb dX6_waySet_62 (by decide) (by omega) (fun c_62 => ?_) (fun c_62 => ?_)
      · refine z_iconst hx hb dX6_waySet_77 ?_
        refine z_iadd hx hb dX6_waySet_78 ?_
        have hres : wset (xz i) = (19 + 4) + 0 := by unfold wset; first | (rw [if_pos (hte.mp c_51), if_pos ⟨c_62, c_69⟩]; done) | (rw [if_pos (hte.mp c_51), if_neg (fun q => c_69 q.2)]; done) | (rw [if_pos (hte.mp c_51), if_neg (fun q => absurd q.1 (by omega))]; done) | (rw [if_neg (fun q => absurd (hte.mpr q) (by omega)), if_pos ⟨c_62, c_69⟩]; done) | (rw [if_neg (fun q => absurd (hte.mpr q) (by omega)), if_neg (fun q => c_69 q.2)]; done) | (rw [if_neg (fun q => absurd (hte.mpr q) (by omega)), if_neg (fun q => absurd q.1 (by omega))]; done)
        exact z_iret hx hb hr hlocks rfl () (congrArg (fun z => some (Value.int (zI z))) hres) (trivial) z_nilP z_nilD hS dX6_waySet_79
      · refine lv_iload_n hx hb dX6_waySet_65 rfl (lv_at hl 2 rfl) ?_
        have hRc : va_P D vwCl [] H := z_nilP
        refine z_ro (ws := []) (va_runS (As := [.int (zI (xz i))]) (rest := [.int (zI (19 + 4))]) CF (c_X6_isPrime l D (xz i) (by omega) H.size) (va_cwS 1 hts gX6_waySet_X6_isPrime rfl rfl rfl (by decide +kernel) ⟨Nat.le_of_ble_eq_true rfl, Nat.le_of_ble_eq_true rfl⟩) (z_preS z_nilP (z_nilD (A := A)) hRc z_noX (hK.sub (tys' := []) [] rfl)) rfl rfl hl.1 rfl (lv_room (Nat.le_of_ble_eq_true rfl)) dX6_waySet_66 ⟨Nat.le_of_ble_eq_true rfl, Nat.le_of_ble_eq_true rfl⟩) z_nilP hS hA (cells' := 0) (slots' := 0) rfl rfl (fun H locs hP hS => ?_)
        have hR := hR0.at hS
        refine z_ifB_eq (tgt := 77) hx hb dX6_waySet_69 (by decide) (fun c_69 => ?_) (fun c_69 => ?_)
        · refine z_iconst hx hb dX6_waySet_77 ?_
          refine z_iadd hx hb dX6_waySet_78 ?_
          have hres : wset (xz i) = (19 + 4) + 0 := by unfold wset; first | (rw [if_pos (hte.mp c_51), if_pos ⟨c_62, c_69⟩]; done) | (rw [if_pos (hte.mp c_51), if_neg (fun q => c_69 q.2)]; done) | (rw [if_pos (hte.mp c_51), if_neg (fun q => absurd q.1 (by omega))]; done) | (rw [if_neg (fun q => absurd (hte.mpr q) (by omega)), if_pos ⟨c_62, c_69⟩]; done) | (rw [if_neg (fun q => absurd (hte.mpr q) (by omega)), if_neg (fun q => c_69 q.2)]; done) | (rw [if_neg (fun q => absurd (hte.mpr q) (by omega)), if_neg (fun q => absurd q.1 (by omega))]; done)
          exact z_iret hx hb hr hlocks rfl () (congrArg (fun z => some (Value.int (zI z))) hres) (trivial) z_nilP z_nilD hS dX6_waySet_79
        · refine z_bipush hx hb dX6_waySet_72 (by decide) ?_
          refine lv_goto (tgt := 78) hx hb dX6_waySet_74 (by decide) ?_
          refine z_iadd hx hb dX6_waySet_78 ?_
          have hres : wset (xz i) = (19 + 4) + 8 := by unfold wset; first | (rw [if_pos (hte.mp c_51), if_pos ⟨c_62, c_69⟩]; done) | (rw [if_pos (hte.mp c_51), if_neg (fun q => c_69 q.2)]; done) | (rw [if_pos (hte.mp c_51), if_neg (fun q => absurd q.1 (by omega))]; done) | (rw [if_neg (fun q => absurd (hte.mpr q) (by omega)), if_pos ⟨c_62, c_69⟩]; done) | (rw [if_neg (fun q => absurd (hte.mpr q) (by omega)), if_neg (fun q => c_69 q.2)]; done) | (rw [if_neg (fun q => absurd (hte.mpr q) (by omega)), if_neg (fun q => absurd q.1 (by omega))]; done)
          exact z_iret hx hb hr hlocks rfl () (congrArg (fun z => some (Value.int (zI z))) hres) (trivial) z_nilP z_nilD hS dX6_waySet_79
  · refine lv_iload_n hx hb dX6_waySet_18 rfl (lv_at hl 3 rfl) ?_
    refine lv_iload_n hx hb dX6_waySet_19 rfl (lv_at hl 2 rfl) ?_
    refine lv_iload hx hb dX6_waySet_20 (lv_at hl 4 rfl) ?_
    refine z_irem hx hb dX6_waySet_22 (by omega) (by omega) ?_
    have hm_22 := z_rem (a := xz i) (n := d) (by omega)
    refine z_if_ne (tgt := 38) hx hb dX6_waySet_23 (by decide) (by omega) (fun c_23 => ?_) (fun c_23 => ?_)
    · refine z_iconst hx hb dX6_waySet_38 ?_
      refine z_iadd hx hb dX6_waySet_39 ?_
      refine lv_istore_n (lv' := [(3, .int (zI (t + 0))), (0, .ref h0), (1, .int (zI i)), (2, .int (zI (xz i))), (4, .int (zI d))]) hx hb dX6_waySet_40 rfl hl (by decide) rfl (fun ls hl => ?_)
      have hl := lv_sub hl [1, 2, 3, 0, 4] rfl
      have hl : lv_has ls 5 [(0, .ref h0), (1, .int (zI i)), (2, .int (zI (xz i))), (3, .int (zI (t + 0))), (4, .int (zI d))] := hl
      refine lv_iinc (v := zI (d + 1)) (lv' := [(4, .int (zI (d + 1))), (0, .ref h0), (1, .int (zI i)), (2, .int (zI (xz i))), (3, .int (zI (t + 0)))]) hx hb dX6_waySet_41 hl (k := 4) rfl (zI_add _ _) (by decide) rfl (fun ls hl => ?_)
      have hl := lv_sub hl [1, 2, 3, 4, 0] rfl
      have hl : lv_has ls 5 [(0, .ref h0), (1, .int (zI i)), (2, .int (zI (xz i))), (3, .int (zI (t + 0))), (4, .int (zI (d + 1)))] := hl
      refine lv_goto (tgt := 12) hx hb dX6_waySet_44 (by decide) ?_
      exact ih_12 (t + 0, d + 1) _ _ _ ⟨(by omega), (by omega), (by rw [ht_, cntI_s (by omega)]; first | rw [if_pos (And.intro c_23 c_31)] | rw [if_neg (fun z => c_31 z.2)] | rw [if_neg (fun z => c_23 z.1)]), hS, hl⟩ (by show (65 - (d + 1)).toNat < (65 - d).toNat; omega)
    · refine lv_iload hx hb dX6_waySet_26 (lv_at hl 4 rfl) ?_
      have hRc : va_P D vwCl [] H := z_nilP
      refine z_ro (ws := []) (va_runS (As := [.int (zI d)]) (rest := [.int (zI t)]) CF (c_X6_isPrime l D d (by omega) H.size) (va_cwS 1 hts gX6_waySet_X6_isPrime rfl rfl rfl (by decide +kernel) ⟨Nat.le_of_ble_eq_true rfl, Nat.le_of_ble_eq_true rfl⟩) (z_preS z_nilP (z_nilD (A := A)) hRc z_noX (hK.sub (tys' := []) [] rfl)) rfl rfl hl.1 rfl (lv_room (Nat.le_of_ble_eq_true rfl)) dX6_waySet_28 ⟨Nat.le_of_ble_eq_true rfl, Nat.le_of_ble_eq_true rfl⟩) z_nilP hS hA (cells' := 0) (slots' := 0) rfl rfl (fun H locs hP hS => ?_)
      have hR := hR0.at hS
      refine z_ifB_eq (tgt := 38) hx hb dX6_waySet_31 (by decide) (fun c_31 => ?_) (fun c_31 => ?_)
      · refine z_iconst hx hb dX6_waySet_38 ?_
        refine z_iadd hx hb dX6_waySet_39 ?_
        refine lv_istore_n (lv' := [(3, .int (zI (t + 0))), (0, .ref h0), (1, .int (zI i)), (2, .int (zI (xz i))), (4, .int (zI d))]) hx hb dX6_waySet_40 rfl hl (by decide) rfl (fun ls hl => ?_)
        have hl := lv_sub hl [1, 2, 3, 0, 4] rfl
        have hl : lv_has ls 5 [(0, .ref h0), (1, .int (zI i)), (2, .int (zI (xz i))), (3, .int (zI (t + 0))), (4, .int (zI d))] := hl
        refine lv_iinc (v := zI (d + 1)) (lv' := [(4, .int (zI (d + 1))), (0, .ref h0), (1, .int (zI i)), (2, .int (zI (xz i))), (3, .int (zI (t + 0)))]) hx hb dX6_waySet_41 hl (k := 4) rfl (zI_add _ _) (by decide) rfl (fun ls hl => ?_)
        have hl := lv_sub hl [1, 2, 3, 4, 0] rfl
        have hl : lv_has ls 5 [(0, .ref h0), (1, .int (zI i)), (2, .int (zI (xz i))), (3, .int (zI (t + 0))), (4, .int (zI (d + 1)))] := hl
        refine lv_goto (tgt := 12) hx hb dX6_waySet_44 (by decide) ?_
        exact ih_12 (t + 0, d + 1) _ _ _ ⟨(by omega), (by omega), (by rw [ht_, cntI_s (by omega)]; first | rw [if_pos (And.intro c_23 c_31)] | rw [if_neg (fun z => c_31 z.2)] | rw [if_neg (fun z => c_23 z.1)]), hS, hl⟩ (by show (65 - (d + 1)).toNat < (65 - d).toNat; omega)
      · refine z_iconst hx hb dX6_waySet_34 ?_
        refine lv_goto (tgt := 39) hx hb dX6_waySet_35 (by decide) ?_
        refine z_iadd hx hb dX6_waySet_39 ?_
        refine lv_istore_n (lv' := [(3, .int (zI (t + 1))), (0, .ref h0), (1, .int (zI i)), (2, .int (zI (xz i))), (4, .int (zI d))]) hx hb dX6_waySet_40 rfl hl (by decide) rfl (fun ls hl => ?_)
        have hl := lv_sub hl [1, 2, 3, 0, 4] rfl
        have hl : lv_has ls 5 [(0, .ref h0), (1, .int (zI i)), (2, .int (zI (xz i))), (3, .int (zI (t + 1))), (4, .int (zI d))] := hl
        refine lv_iinc (v := zI (d + 1)) (lv' := [(4, .int (zI (d + 1))), (0, .ref h0), (1, .int (zI i)), (2, .int (zI (xz i))), (3, .int (zI (t + 1)))]) hx hb dX6_waySet_41 hl (k := 4) rfl (zI_add _ _) (by decide) rfl (fun ls hl => ?_)
        have hl := lv_sub hl [1, 2, 3, 4, 0] rfl
        have hl : lv_has ls 5 [(0, .ref h0), (1, .int (zI i)), (2, .int (zI (xz i))), (3, .int (zI (t + 1))), (4, .int (zI (d + 1)))] := hl
        refine lv_goto (tgt := 12) hx hb dX6_waySet_44 (by decide) ?_
        exact ih_12 (t + 1, d + 1) _ _ _ ⟨(by omega), (by omega), (by rw [ht_, cntI_s (by omega)]; first | rw [if_pos (And.intro c_23 c_31)] | rw [if_neg (fun z => c_31 z.2)] | rw [if_neg (fun z => c_23 z.1)]), hS, hl⟩ (by show (65 - (d + 1)).toNat < (65 - d).toNat; omega)

set_option maxHeartbeats 4000000 in
set_option maxRecDepth 100000 in
theorem c_X6_ways_1 (l : Launch) (D : va_G) (cI : ClassId) (h0 : Nat) (ae : Nat) (al : Nat) (ap : Nat) (az : Nat) (ar : Nat) (am : Nat) (np : Int) (th : Int) (i : Int) (ha_i : -2147483648 ≤ i ∧ i ≤ 2147483647) (hnp_ : 0 ≤ np ∧ np ≤ 8) (hi0 : ¬ (0 ≤ i ∧ i < np)) : zC l yX6_ways wsX6_ways ({ frames := 1, cells := 0, slots := 0, locals := 21 } : Room) D [(cI, .int)] [(h0, .inr (5, [.ref ae, .ref al, .ref ap, .ref az, .ref ar, .int (zI np), .ref am, .int (zI th)]))] [] [.ref h0, .int (zI i)] (S := Unit) (fun u => True) (fun u => some (.int (zI 0))) (fun u => [(h0, .inr (5, [.ref ae, .ref al, .ref ap, .ref az, .ref ar, .int (zI np), .ref am, .int (zI 1)]))]) := by
  refine z_start (cc := cX6_ways) (maxL := 2) (ret := (some .int)) (own := RX6) (by decide) rfl rfl (Nat.le_of_ble_eq_true rfl) [(0, .ref h0), (1, .int (zI i))] rfl ?_
  intro pp ee s mm below meth cc A H ls hx hb hr hml hts hown hlocks hin hK hA hP hD hS hR0 hR hl
  have CF : CallFix pp mm cc cX6_ways 2 s ([.ref h0, .int (zI i)] : List Value).toArray wsX6_ways RX6 := ⟨hx, hb, hml, hown, hts⟩
  have hi6 : ∀ w ∈ wsX60, w ∈ wsX6_ways := by decide +kernel
  refine lv_aload_n hx hb dX6_ways_0 rfl (lv_at hl 0 rfl) ?_
  refine lv_aload_n hx hb dX6_ways_1 rfl (lv_at hl 0 rfl) ?_
  refine lv_iload_n hx hb dX6_ways_2 rfl (lv_at hl 1 rfl) ?_
  have hRc := z_subR (ws := [(h0, .inr (5, [.ref ae, .ref al, .ref ap, .ref az, .ref ar, .int (zI np), .ref am, .int (zI th)]))]) (rs := []) (rc := [(h0, .inr (5, [.ref ae, .ref al, .ref ap, .ref az, .ref ar, .int (zI np), .ref am, .int (zI th)]))]) hP z_nilP (isR := [0]) rfl
  refine z_ro (ws := [(h0, .inr (5, [.ref ae, .ref al, .ref ap, .ref az, .ref ar, .int (zI np), .ref am, .int (zI th)]))]) (va_runV (As := [.int (zI i)]) (rest := [.ref h0]) CF (c_X6_isPlan l D h0 ae al ap az ar am np th i (by omega) (by omega) H.size) (cwV 1 hts gX6_ways_X6_isPlan rfl rfl rfl (by decide +kernel) ⟨Nat.le_of_ble_eq_true rfl, Nat.le_of_ble_eq_true rfl⟩) (z_preV (va_recv hK hP (ci := 5) (q0 := 0) rfl rfl) z_nilP (z_nilD (A := A)) hRc z_noX (hK.sub (tys' := []) [] rfl)) rfl rfl hl.1 rfl (lv_room (Nat.le_of_ble_eq_true rfl)) dX6_ways_3 ⟨Nat.le_of_ble_eq_true rfl, Nat.le_of_ble_eq_true rfl⟩) hP hS hA (cells' := 0) (slots' := 0) rfl rfl (fun H locs hP hS => ?_)
  refine z_ifB_eq (tgt := 13) hx hb dX6_ways_6 (by decide) (fun c_6 => ?_) (fun c_6 => absurd c_6 (by omega))
  refine z_iconst hx hb dX6_ways_13 ?_
  refine va_put (D := D) (ci := 5) (v := .int (zI 1)) (ty := .int) (C := RX6) (T := TX6) (N := 8) hx hb hts hi6 tyX6 tyX6_ok nmX6 hown hK hP hD hS 0 rfl rfl 7 (by decide) (hts (.fieldLink RX6 28 "ButterflyYardModel" "thrown" "I") (by decide +kernel)) (fun _ h9 => h9) rfl (by decide +kernel) rfl rfl (Nat.le_of_ble_eq_true rfl) dX6_ways_14 (fun H locs hP hD hS => ?_)
  have hP : va_P D vwCl [(h0, .inr (5, [.ref ae, .ref al, .ref ap, .ref az, .ref ar, .int (zI np), .ref am, .int (zI 1)]))] H := hP
  have hD : va_D A [(h0, .inr (5, [.ref ae, .ref al, .ref ap, .ref az, .ref ar, .int (zI np), .ref am, .int (zI 1)]))] := hD
  refine lv_aload_n hx hb dX6_ways_17 rfl (lv_at hl 0 rfl) ?_
  refine va_get (D := D) (ci := 5) (C := RX6) (T := TX6) (N := 8) hx hb hts hi6 hown hK hP 0 rfl rfl 7 (by decide) (hts (.fieldLink RX6 28 "ButterflyYardModel" "thrown" "I") (by decide +kernel)) (fun _ h9 => h9) rfl dX6_ways_18 ?_
  refine z_if_ne (tgt := 32) hx hb dX6_ways_21 (by decide) (by omega) (fun c_21 => ?_) (fun c_21 => absurd c_21 (by omega))
  refine z_iconst hx hb dX6_ways_32 ?_
  exact z_iret hx hb hr hlocks rfl () (rfl) (trivial) hP hD hS dX6_ways_33

set_option maxHeartbeats 4000000 in
set_option maxRecDepth 100000 in
theorem c_X6_ways_ok (l : Launch) (D : va_G) (cI : ClassId) (h0 : Nat) (ae : Nat) (al : Nat) (ap : Nat) (az : Nat) (ar : Nat) (am : Nat) (np : Int) (th : Int) (xz : Int → Int) (i : Int) (ha_i : -2147483648 ≤ i ∧ i ≤ 2147483647) (hnp_ : 0 ≤ np ∧ np ≤ 8) (hi0 : 0 ≤ i ∧ i < np) (hz_ : 1 ≤ xz i ∧ xz i ≤ 64) : zC l yX6_ways wsX6_ways ({ frames := 2, cells := 0, slots := 0, locals := 46 } : Room) D [(cI, .int)] [(h0, .inr (5, [.ref ae, .ref al, .ref ap, .ref az, .ref ar, .int (zI np), .ref am, .int (zI th)]))] [(az, .inl (cI, 8, .inl (zA xz)))] [.ref h0, .int (zI i)] (S := Unit) (fun u => True) (fun u => some (.int (zI (wset (xz i))))) (fun u => [(h0, .inr (5, [.ref ae, .ref al, .ref ap, .ref az, .ref ar, .int (zI np), .ref am, .int (zI 0)]))]) := by
  refine z_start (cc := cX6_ways) (maxL := 2) (ret := (some .int)) (own := RX6) (by decide) rfl rfl (Nat.le_of_ble_eq_true rfl) [(0, .ref h0), (1, .int (zI i))] rfl ?_
  intro pp ee s mm below meth cc A H ls hx hb hr hml hts hown hlocks hin hK hA hP hD hS hR0 hR hl
  have CF : CallFix pp mm cc cX6_ways 2 s ([.ref h0, .int (zI i)] : List Value).toArray wsX6_ways RX6 := ⟨hx, hb, hml, hown, hts⟩
  have hi6 : ∀ w ∈ wsX60, w ∈ wsX6_ways := by decide +kernel
  refine lv_aload_n hx hb dX6_ways_0 rfl (lv_at hl 0 rfl) ?_
  refine lv_aload_n hx hb dX6_ways_1 rfl (lv_at hl 0 rfl) ?_
  refine lv_iload_n hx hb dX6_ways_2 rfl (lv_at hl 1 rfl) ?_
  have hRc := z_subR (ws := [(h0, .inr (5, [.ref ae, .ref al, .ref ap, .ref az, .ref ar, .int (zI np), .ref am, .int (zI th)]))]) (rs := [(az, .inl (cI, 8, .inl (zA xz)))]) (rc := [(h0, .inr (5, [.ref ae, .ref al, .ref ap, .ref az, .ref ar, .int (zI np), .ref am, .int (zI th)]))]) hP hR (isR := [0]) rfl
  refine z_ro (ws := [(h0, .inr (5, [.ref ae, .ref al, .ref ap, .ref az, .ref ar, .int (zI np), .ref am, .int (zI th)]))]) (va_runV (As := [.int (zI i)]) (rest := [.ref h0]) CF (c_X6_isPlan l D h0 ae al ap az ar am np th i (by omega) (by omega) H.size) (cwV 1 hts gX6_ways_X6_isPlan rfl rfl rfl (by decide +kernel) ⟨Nat.le_of_ble_eq_true rfl, Nat.le_of_ble_eq_true rfl⟩) (z_preV (va_recv hK hP (ci := 5) (q0 := 0) rfl rfl) z_nilP (z_nilD (A := A)) hRc z_noX (hK.sub (tys' := []) [] rfl)) rfl rfl hl.1 rfl (lv_room (Nat.le_of_ble_eq_true rfl)) dX6_ways_3 ⟨Nat.le_of_ble_eq_true rfl, Nat.le_of_ble_eq_true rfl⟩) hP hS hA (cells' := 0) (slots' := 0) rfl rfl (fun H locs hP hS => ?_)
  have hR := hR0.at hS
  refine z_ifB_eq (tgt := 13) hx hb dX6_ways_6 (by decide) (fun c_6 => absurd c_6 (by omega)) (fun c_6 => ?_)
  refine z_iconst hx hb dX6_ways_9 ?_
  refine lv_goto (tgt := 14) hx hb dX6_ways_10 (by decide) ?_
  refine va_put (D := D) (ci := 5) (v := .int (zI 0)) (ty := .int) (C := RX6) (T := TX6) (N := 8) hx hb hts hi6 tyX6 tyX6_ok nmX6 hown hK hP hD hS 0 rfl rfl 7 (by decide) (hts (.fieldLink RX6 28 "ButterflyYardModel" "thrown" "I") (by decide +kernel)) (fun _ h9 => h9) rfl (by decide +kernel) rfl rfl (Nat.le_of_ble_eq_true rfl) dX6_ways_14 (fun H locs hP hD hS => ?_)
  have hP : va_P D vwCl [(h0, .inr (5, [.ref ae, .ref al, .ref ap, .ref az, .ref ar, .int (zI np), .ref am, .int (zI 0)]))] H := hP
  have hD : va_D A [(h0, .inr (5, [.ref ae, .ref al, .ref ap, .ref az, .ref ar, .int (zI np), .ref am, .int (zI 0)]))] := hD
  have hR := hR0.at hS
  refine lv_aload_n hx hb dX6_ways_17 rfl (lv_at hl 0 rfl) ?_
  refine va_get (D := D) (ci := 5) (C := RX6) (T := TX6) (N := 8) hx hb hts hi6 hown hK hP 0 rfl rfl 7 (by decide) (hts (.fieldLink RX6 28 "ButterflyYardModel" "thrown" "I") (by decide +kernel)) (fun _ h9 => h9) rfl dX6_ways_18 ?_
  refine z_if_ne (tgt := 32) hx hb dX6_ways_21 (by decide) (by omega) (fun c_21 => absurd c_21 (by omega)) (fun c_21 => ?_)
  refine lv_aload_n hx hb dX6_ways_24 rfl (lv_at hl 0 rfl) ?_
  refine lv_iload_n hx hb dX6_ways_25 rfl (lv_at hl 1 rfl) ?_
  have hRc := z_subR (ws := [(h0, .inr (5, [.ref ae, .ref al, .ref ap, .ref az, .ref ar, .int (zI np), .ref am, .int (zI 0)]))]) (rs := [(az, .inl (cI, 8, .inl (zA xz)))]) (rc := [(h0, .inr (5, [.ref ae, .ref al, .ref ap, .ref az, .ref ar, .int (zI np), .ref am, .int (zI 0)])), (az, .inl (cI, 8, .inl (zA xz)))]) hP hR (isR := [0, 1]) rfl
  refine z_ro (ws := [(h0, .inr (5, [.ref ae, .ref al, .ref ap, .ref az, .ref ar, .int (zI np), .ref am, .int (zI 0)]))]) (va_runV (As := [.int (zI i)]) (rest := []) CF (c_X6_waySet l D cI h0 ae al ap az ar am np 0 xz i (by omega) (by omega) (by omega) H.size) (cwV 1 hts gX6_ways_X6_waySet rfl rfl rfl (by decide +kernel) ⟨Nat.le_of_ble_eq_true rfl, Nat.le_of_ble_eq_true rfl⟩) (z_preV (va_recv hK hP (ci := 5) (q0 := 0) rfl rfl) z_nilP (z_nilD (A := A)) hRc z_noX (hK.sub (tys' := [(cI, .int)]) [0] rfl)) rfl rfl hl.1 rfl (lv_room (Nat.le_of_ble_eq_true rfl)) dX6_ways_26 ⟨Nat.le_of_ble_eq_true rfl, Nat.le_of_ble_eq_true rfl⟩) hP hS hA (cells' := 0) (slots' := 0) rfl rfl (fun H locs hP hS => ?_)
  have hR := hR0.at hS
  refine lv_goto (tgt := 33) hx hb dX6_ways_29 (by decide) ?_
  exact z_iret hx hb hr hlocks rfl () (rfl) (trivial) hP hD hS dX6_ways_33

set_option maxHeartbeats 4000000 in
set_option maxRecDepth 100000 in
theorem c_X6_sumFor (l : Launch) (D : va_G) (cI : ClassId) (h0 : Nat) (ae : Nat) (al : Nat) (ap : Nat) (az : Nat) (ar : Nat) (am : Nat) (np : Int) (th : Int) (xe : Int → Int) (xl : Int → Int) (xp : Int → Int) (xz : Int → Int) (i : Int) (r : Int) (x : Int) (w : Int) (hnp_ : 0 ≤ np ∧ np ≤ 8) (hi0 : 0 ≤ i ∧ i < np) (hz_ : 1 ≤ xz i ∧ xz i ≤ 64) (hp_ : 2 ≤ xp i ∧ xp i ≤ 10000) (hr_r : 0 ≤ r ∧ r < 4) (hxl_r : 0 ≤ xl r ∧ xl r ≤ 64) (hxe : ∀ k, 0 ≤ k → k < 256 → -1000000 ≤ xe k ∧ xe k ≤ 1000000) (hx_ : 0 ≤ x ∧ x < 64) (hw_ : 0 ≤ w ∧ w ≤ 10000) : zF l yX6_sumFor wsX6_sumFor ({ frames := 2, cells := 0, slots := 0, locals := 45 } : Room) D [(cI, .int)] [(h0, .inr (5, [.ref ae, .ref al, .ref ap, .ref az, .ref ar, .int (zI np), .ref am, .int (zI th)])), (ae, .inl (cI, 256, .inl (zA xe))), (al, .inl (cI, 4, .inl (zA xl))), (ap, .inl (cI, 8, .inl (zA xp))), (az, .inl (cI, 8, .inl (zA xz)))] [.ref h0, .int (zI i), .int (zI r), .int (zI x), .int (zI w)] (some (.int (zI (sumR (xp i) (xz i) w (fun j => rowAt (eRow xe r) (xl r) j % xp i) x)))) := by
  refine z_start (cc := cX6_sumFor) (maxL := 10) (ret := (some .int)) (own := RX6) (by decide) rfl rfl (Nat.le_of_ble_eq_true rfl) [(0, .ref h0), (1, .int (zI i)), (2, .int (zI r)), (3, .int (zI x)), (4, .int (zI w))] rfl ?_
  intro pp ee s mm below meth cc A H ls hx hb hr hml hts hown hlocks hin hK hA hP hD hS hR0 hR hl
  have CF : CallFix pp mm cc cX6_sumFor 10 s ([.ref h0, .int (zI i), .int (zI r), .int (zI x), .int (zI w)] : List Value).toArray wsX6_sumFor RX6 := ⟨hx, hb, hml, hown, hts⟩
  have hi6 : ∀ w ∈ wsX60, w ∈ wsX6_sumFor := by decide +kernel
  refine lv_aload_n hx hb dX6_sumFor_0 rfl (lv_at hl 0 rfl) ?_
  refine va_get (D := D) (ci := 5) (C := RX6) (T := TX6) (N := 8) hx hb hts hi6 hown hK hR 0 rfl rfl 2 (by decide) (hts (.fieldLink RX6 16 "ButterflyYardModel" "primes" "[I") (by decide +kernel)) (fun _ h9 => h9) rfl dX6_sumFor_1 ?_
  refine lv_iload_n hx hb dX6_sumFor_4 rfl (lv_at hl 1 rfl) ?_
  refine z_iald (cA := cI) (n := 8) (g := xp) hx hb hK hR 3 0 rfl rfl rfl (by omega) dX6_sumFor_5 ?_
  refine lv_istore (lv' := [(5, .int (zI (xp i))), (0, .ref h0), (1, .int (zI i)), (2, .int (zI r)), (3, .int (zI x)), (4, .int (zI w))]) hx hb dX6_sumFor_6 hl (by decide) rfl (fun ls hl => ?_)
  have hl := lv_sub hl [1, 2, 3, 4, 5, 0] rfl
  have hl : lv_has ls 10 [(0, .ref h0), (1, .int (zI i)), (2, .int (zI r)), (3, .int (zI x)), (4, .int (zI w)), (5, .int (zI (xp i)))] := hl
  refine lv_iload hx hb dX6_sumFor_8 (lv_at hl 4 rfl) ?_
  refine lv_iload_n hx hb dX6_sumFor_10 rfl (lv_at hl 3 rfl) ?_
  refine lv_iload hx hb dX6_sumFor_11 (lv_at hl 5 rfl) ?_
  have hRc : va_P D vwCl [] H := z_nilP
  refine z_ro (ws := []) (va_runS (As := [.int (zI w), .int (zI x), .int (zI (xp i))]) (rest := []) CF (c_X6_power l D w x (xp i) (by omega) (by omega) (by omega) H.size) (va_cwS 3 hts gX6_sumFor_X6_power rfl rfl rfl (by decide +kernel) ⟨Nat.le_of_ble_eq_true rfl, Nat.le_of_ble_eq_true rfl⟩) (z_preS z_nilP (z_nilD (A := A)) hRc z_noX (hK.sub (tys' := []) [] rfl)) rfl rfl hl.1 rfl (lv_room (Nat.le_of_ble_eq_true rfl)) dX6_sumFor_13 ⟨Nat.le_of_ble_eq_true rfl, Nat.le_of_ble_eq_true rfl⟩) z_nilP hS hA (cells' := 0) (slots' := 0) rfl rfl (fun H locs hP hS => ?_)
  have hR := hR0.at hS
  have hpw := pwm_rng (b := w) (e := x) (n := xp i) (by omega)
  refine lv_istore (lv' := [(6, .int (zI (pwm w x (xp i)))), (0, .ref h0), (1, .int (zI i)), (2, .int (zI r)), (3, .int (zI x)), (4, .int (zI w)), (5, .int (zI (xp i)))]) hx hb dX6_sumFor_16 hl (by decide) rfl (fun ls hl => ?_)
  have hl := lv_sub hl [1, 2, 3, 4, 5, 6, 0] rfl
  have hl : lv_has ls 10 [(0, .ref h0), (1, .int (zI i)), (2, .int (zI r)), (3, .int (zI x)), (4, .int (zI w)), (5, .int (zI (xp i))), (6, .int (zI (pwm w x (xp i))))] := hl
  refine z_iconst hx hb dX6_sumFor_18 ?_
  refine lv_istore (lv' := [(7, .int (zI 1)), (0, .ref h0), (1, .int (zI i)), (2, .int (zI r)), (3, .int (zI x)), (4, .int (zI w)), (5, .int (zI (xp i))), (6, .int (zI (pwm w x (xp i))))]) hx hb dX6_sumFor_19 hl (by decide) rfl (fun ls hl => ?_)
  have hl := lv_sub hl [1, 2, 3, 4, 5, 6, 7, 0] rfl
  have hl : lv_has ls 10 [(0, .ref h0), (1, .int (zI i)), (2, .int (zI r)), (3, .int (zI x)), (4, .int (zI w)), (5, .int (zI (xp i))), (6, .int (zI (pwm w x (xp i)))), (7, .int (zI 1))] := hl
  refine z_iconst hx hb dX6_sumFor_21 ?_
  refine lv_istore (lv' := [(8, .int (zI 0)), (0, .ref h0), (1, .int (zI i)), (2, .int (zI r)), (3, .int (zI x)), (4, .int (zI w)), (5, .int (zI (xp i))), (6, .int (zI (pwm w x (xp i)))), (7, .int (zI 1))]) hx hb dX6_sumFor_22 hl (by decide) rfl (fun ls hl => ?_)
  have hl := lv_sub hl [1, 2, 3, 4, 5, 6, 7, 8, 0] rfl
  have hl : lv_has ls 10 [(0, .ref h0), (1, .int (zI i)), (2, .int (zI r)), (3, .int (zI x)), (4, .int (zI w)), (5, .int (zI (xp i))), (6, .int (zI (pwm w x (xp i)))), (7, .int (zI 1)), (8, .int (zI 0))] := hl
  refine z_iconst hx hb dX6_sumFor_24 ?_
  refine lv_istore (lv' := [(9, .int (zI 0)), (0, .ref h0), (1, .int (zI i)), (2, .int (zI r)), (3, .int (zI x)), (4, .int (zI w)), (5, .int (zI (xp i))), (6, .int (zI (pwm w x (xp i)))), (7, .int (zI 1)), (8, .int (zI 0))]) hx hb dX6_sumFor_25 hl (by decide) rfl (fun ls hl => ?_)
  have hl := lv_sub hl [1, 2, 3, 4, 5, 6, 7, 8, 9, 0] rfl
  have hl : lv_has ls 10 [(0, .ref h0), (1, .int (zI i)), (2, .int (zI r)), (3, .int (zI x)), (4, .int (zI w)), (5, .int (zI (xp i))), (6, .int (zI (pwm w x (xp i)))), (7, .int (zI 1)), (8, .int (zI 0)), (9, .int (zI 0))] := hl
  refine z_loop (σ := Int × Int × Int) (fun (f, sm, j) => (xz i - j).toNat) (fun (f, sm, j) H locs ls => (0 ≤ j ∧ j ≤ xz i) ∧ f = pwm (pwm w x (xp i)) j (xp i) ∧ (0 ≤ f ∧ f < xp i) ∧ sm = zT (fun j => (rowAt (eRow xe r) (xl r) j % xp i) * pwm (pwm w x (xp i)) j (xp i)) j % xp i ∧ (0 ≤ sm ∧ sm < xp i) ∧ va_S A s.heap H locs ∧ lv_has ls 10 [(0, .ref h0), (1, .int (zI i)), (2, .int (zI r)), (3, .int (zI x)), (4, .int (zI w)), (5, .int (zI (xp i))), (6, .int (zI (pwm w x (xp i)))), (7, .int (zI f)), (8, .int (zI sm)), (9, .int (zI j))]) (1, 0, 0) ⟨(by omega), (by exact (pwm_1 (by omega)).symm), (by omega), (by rw [zT_0, Int.zero_emod]), (by omega), hS, hl⟩ ?_
  intro ⟨f, sm, j⟩ H locs ls hI ih_27
  obtain ⟨hj_, hf_, hfr, hs_, hsr, hS, hl⟩ := hI
  have hR := hR0.at hS
  refine lv_iload hx hb dX6_sumFor_27 (lv_at hl 9 rfl) ?_
  refine lv_aload_n hx hb dX6_sumFor_29 rfl (lv_at hl 0 rfl) ?_
  refine va_get (D := D) (ci := 5) (C := RX6) (T := TX6) (N := 8) hx hb hts hi6 hown hK hR 0 rfl rfl 3 (by decide) (hts (.fieldLink RX6 19 "ButterflyYardModel" "sizes" "[I") (by decide +kernel)) (fun _ h9 => h9) rfl dX6_sumFor_30 ?_
  refine lv_iload_n hx hb dX6_sumFor_33 rfl (lv_at hl 1 rfl) ?_
  refine z_iald (cA := cI) (n := 8) (g := xz) hx hb hK hR 4 0 rfl rfl rfl (by omega) dX6_sumFor_34 ?_
  refine z_icmp_ge (tgt := 74) hx hb dX6_sumFor_35 (by decide) (by omega) (fun c_35 => ?_) (fun c_35 => ?_)
  · refine lv_iload hx hb dX6_sumFor_74 (lv_at hl 8 rfl) ?_
    have hres : sumR (xp i) (xz i) w (fun j => rowAt (eRow xe r) (xl r) j % xp i) x = sm := by unfold sumR; rw [hs_, show j = xz i by omega]
    exact z_iret hx hb hr hlocks rfl () (congrArg (fun z => some (Value.int (zI z))) hres) (trivial) z_nilP z_nilD hS dX6_sumFor_76
  · refine lv_iload hx hb dX6_sumFor_38 (lv_at hl 8 rfl) ?_
    refine lv_aload_n hx hb dX6_sumFor_40 rfl (lv_at hl 0 rfl) ?_
    refine lv_iload_n hx hb dX6_sumFor_41 rfl (lv_at hl 2 rfl) ?_
    refine lv_iload hx hb dX6_sumFor_42 (lv_at hl 9 rfl) ?_
    refine lv_iload hx hb dX6_sumFor_44 (lv_at hl 5 rfl) ?_
    have hRc := z_subR (ws := []) (rs := [(h0, .inr (5, [.ref ae, .ref al, .ref ap, .ref az, .ref ar, .int (zI np), .ref am, .int (zI th)])), (ae, .inl (cI, 256, .inl (zA xe))), (al, .inl (cI, 4, .inl (zA xl))), (ap, .inl (cI, 8, .inl (zA xp))), (az, .inl (cI, 8, .inl (zA xz)))]) (rc := [(h0, .inr (5, [.ref ae, .ref al, .ref ap, .ref az, .ref ar, .int (zI np), .ref am, .int (zI th)])), (ae, .inl (cI, 256, .inl (zA xe))), (al, .inl (cI, 4, .inl (zA xl)))]) z_nilP hR (isR := [0, 1, 2]) rfl
    refine z_ro (ws := []) (va_runV (As := [.int (zI r), .int (zI j), .int (zI (xp i))]) (rest := [.int (zI sm)]) CF (c_X6_restAt l D cI h0 ae al ap az ar am np th xe xl r j (xp i) (by omega) (by omega) (by omega) (by omega) (by omega) H.size) (cwV 3 hts gX6_sumFor_X6_restAt rfl rfl rfl (by decide +kernel) ⟨Nat.le_of_ble_eq_true rfl, Nat.le_of_ble_eq_true rfl⟩) (z_preV (va_recv hK hR (ci := 5) (q0 := 0) rfl rfl) z_nilP (z_nilD (A := A)) hRc z_noX (hK.sub (tys' := [(cI, .int)]) [0] rfl)) rfl rfl hl.1 rfl (lv_room (Nat.le_of_ble_eq_true rfl)) dX6_sumFor_46 ⟨Nat.le_of_ble_eq_true rfl, Nat.le_of_ble_eq_true rfl⟩) z_nilP hS hA (cells' := 0) (slots' := 0) rfl rfl (fun H locs hP hS => ?_)
    have hR := hR0.at hS
    refine lv_iload hx hb dX6_sumFor_49 (lv_at hl 7 rfl) ?_
    have hr1 := z_rem (a := rowAt (eRow xe r) (xl r) j) (n := xp i) (by omega)
    have hb1 := z_mulb (a := rowAt (eRow xe r) (xl r) j % xp i) (b := f) (A := 10000) (B := 10000) (by omega) (by omega) (by omega) (by omega)
    have hb2 := z_mulb (a := f) (b := pwm w x (xp i)) (A := 10000) (B := 10000) (by omega) (by omega) (by omega) (by omega)
    refine z_imul hx hb dX6_sumFor_51 ?_
    refine z_iadd hx hb dX6_sumFor_52 ?_
    refine lv_iload hx hb dX6_sumFor_53 (lv_at hl 5 rfl) ?_
    refine z_irem hx hb dX6_sumFor_55 (by omega) (by omega) ?_
    have hm_55 := z_rem (a := sm + ((rowAt (eRow xe r) (xl r) j % (xp i)) * f)) (n := xp i) (by omega)
    refine lv_istore (lv' := [(8, .int (zI ((sm + ((rowAt (eRow xe r) (xl r) j % (xp i)) * f)) % (xp i)))), (0, .ref h0), (1, .int (zI i)), (2, .int (zI r)), (3, .int (zI x)), (4, .int (zI w)), (5, .int (zI (xp i))), (6, .int (zI (pwm w x (xp i)))), (7, .int (zI f)), (9, .int (zI j))]) hx hb dX6_sumFor_56 hl (by decide) rfl (fun ls hl => ?_)
    have hl := lv_sub hl [1, 2, 3, 4, 5, 6, 7, 8, 0, 9] rfl
    have hl : lv_has ls 10 [(0, .ref h0), (1, .int (zI i)), (2, .int (zI r)), (3, .int (zI x)), (4, .int (zI w)), (5, .int (zI (xp i))), (6, .int (zI (pwm w x (xp i)))), (7, .int (zI f)), (8, .int (zI ((sm + ((rowAt (eRow xe r) (xl r) j % (xp i)) * f)) % (xp i)))), (9, .int (zI j))] := hl
    refine lv_iload hx hb dX6_sumFor_58 (lv_at hl 7 rfl) ?_
    refine lv_iload hx hb dX6_sumFor_60 (lv_at hl 6 rfl) ?_
    refine z_imul hx hb dX6_sumFor_62 ?_
    refine lv_iload hx hb dX6_sumFor_63 (lv_at hl 5 rfl) ?_
    refine z_irem hx hb dX6_sumFor_65 (by omega) (by omega) ?_
    have hm_65 := z_rem (a := f * (pwm w x (xp i))) (n := xp i) (by omega)
    refine lv_istore (lv' := [(7, .int (zI ((f * (pwm w x (xp i))) % (xp i)))), (0, .ref h0), (1, .int (zI i)), (2, .int (zI r)), (3, .int (zI x)), (4, .int (zI w)), (5, .int (zI (xp i))), (6, .int (zI (pwm w x (xp i)))), (8, .int (zI ((sm + ((rowAt (eRow xe r) (xl r) j % (xp i)) * f)) % (xp i)))), (9, .int (zI j))]) hx hb dX6_sumFor_66 hl (by decide) rfl (fun ls hl => ?_)
    have hl := lv_sub hl [1, 2, 3, 4, 5, 6, 7, 0, 8, 9] rfl
    have hl : lv_has ls 10 [(0, .ref h0), (1, .int (zI i)), (2, .int (zI r)), (3, .int (zI x)), (4, .int (zI w)), (5, .int (zI (xp i))), (6, .int (zI (pwm w x (xp i)))), (7, .int (zI ((f * (pwm w x (xp i))) % (xp i)))), (8, .int (zI ((sm + ((rowAt (eRow xe r) (xl r) j % (xp i)) * f)) % (xp i)))), (9, .int (zI j))] := hl
    refine lv_iinc (v := zI (j + 1)) (lv' := [(9, .int (zI (j + 1))), (0, .ref h0), (1, .int (zI i)), (2, .int (zI r)), (3, .int (zI x)), (4, .int (zI w)), (5, .int (zI (xp i))), (6, .int (zI (pwm w x (xp i)))), (7, .int (zI ((f * (pwm w x (xp i))) % (xp i)))), (8, .int (zI ((sm + ((rowAt (eRow xe r) (xl r) j % (xp i)) * f)) % (xp i))))]) hx hb dX6_sumFor_68 hl (k := 9) rfl (zI_add _ _) (by decide) rfl (fun ls hl => ?_)
    have hl := lv_sub hl [1, 2, 3, 4, 5, 6, 7, 8, 9, 0] rfl
    have hl : lv_has ls 10 [(0, .ref h0), (1, .int (zI i)), (2, .int (zI r)), (3, .int (zI x)), (4, .int (zI w)), (5, .int (zI (xp i))), (6, .int (zI (pwm w x (xp i)))), (7, .int (zI ((f * (pwm w x (xp i))) % (xp i)))), (8, .int (zI ((sm + ((rowAt (eRow xe r) (xl r) j % (xp i)) * f)) % (xp i)))), (9, .int (zI (j + 1)))] := hl
    refine lv_goto (tgt := 27) hx hb dX6_sumFor_71 (by decide) ?_
    exact ih_27 ((f * (pwm w x (xp i))) % (xp i), (sm + ((rowAt (eRow xe r) (xl r) j % (xp i)) * f)) % (xp i), j + 1) _ _ _ ⟨(by omega), (by rw [hf_, pwm_s hj_.1]), (by exact z_rem (by omega)), (by rw [hs_, Int.emod_add_emod, zT_s _ hj_.1, ← hf_]), (by exact z_rem (by omega)), hS, hl⟩ (by show (xz i - (j + 1)).toNat < (xz i - j).toNat; omega)

set_option maxHeartbeats 4000000 in
set_option maxRecDepth 100000 in
theorem c_X6_transforms_1af (l : Launch) (D : va_G) (cI : ClassId) (h0 : Nat) (ae : Nat) (al : Nat) (ap : Nat) (az : Nat) (ar : Nat) (am : Nat) (np : Int) (th : Int) (i : Int) (r : Int) (w : Int) (ha_i : -2147483648 ≤ i ∧ i ≤ 2147483647) (ha_r : -2147483648 ≤ r ∧ r ≤ 2147483647) (ha_w : -2147483648 ≤ w ∧ w ≤ 2147483647) (hnp_ : 0 ≤ np ∧ np ≤ 8) (hi0 : ¬ (0 ≤ i ∧ i < np)) : zC l yX6_transforms wsX6_transforms ({ frames := 1, cells := 0, slots := 0, locals := 21 } : Room) D [(cI, .int)] [(h0, .inr (5, [.ref ae, .ref al, .ref ap, .ref az, .ref ar, .int (zI np), .ref am, .int (zI th)]))] [] [.ref h0, .int (zI i), .int (zI r), .int (zI w), .int (zI 0)] (S := Unit) (fun u => True) (fun u => some (.int (zI 0))) (fun u => [(h0, .inr (5, [.ref ae, .ref al, .ref ap, .ref az, .ref ar, .int (zI np), .ref am, .int (zI 1)]))]) := by
  refine z_start (cc := cX6_transforms) (maxL := 10) (ret := (some .int)) (own := RX6) (by decide) rfl rfl (Nat.le_of_ble_eq_true rfl) [(0, .ref h0), (1, .int (zI i)), (2, .int (zI r)), (3, .int (zI w)), (4, .int (zI 0))] rfl ?_
  intro pp ee s mm below meth cc A H ls hx hb hr hml hts hown hlocks hin hK hA hP hD hS hR0 hR hl
  have CF : CallFix pp mm cc cX6_transforms 10 s ([.ref h0, .int (zI i), .int (zI r), .int (zI w), .int (zI 0)] : List Value).toArray wsX6_transforms RX6 := ⟨hx, hb, hml, hown, hts⟩
  have hi6 : ∀ w ∈ wsX60, w ∈ wsX6_transforms := by decide +kernel
  refine lv_aload_n hx hb dX6_transforms_0 rfl (lv_at hl 0 rfl) ?_
  refine lv_iload_n hx hb dX6_transforms_1 rfl (lv_at hl 1 rfl) ?_
  have hRc := z_subR (ws := [(h0, .inr (5, [.ref ae, .ref al, .ref ap, .ref az, .ref ar, .int (zI np), .ref am, .int (zI th)]))]) (rs := []) (rc := [(h0, .inr (5, [.ref ae, .ref al, .ref ap, .ref az, .ref ar, .int (zI np), .ref am, .int (zI th)]))]) hP z_nilP (isR := [0]) rfl
  refine z_ro (ws := [(h0, .inr (5, [.ref ae, .ref al, .ref ap, .ref az, .ref ar, .int (zI np), .ref am, .int (zI th)]))]) (va_runV (As := [.int (zI i)]) (rest := []) CF (c_X6_isPlan l D h0 ae al ap az ar am np th i (by omega) (by omega) H.size) (cwV 1 hts gX6_transforms_X6_isPlan rfl rfl rfl (by decide +kernel) ⟨Nat.le_of_ble_eq_true rfl, Nat.le_of_ble_eq_true rfl⟩) (z_preV (va_recv hK hP (ci := 5) (q0 := 0) rfl rfl) z_nilP (z_nilD (A := A)) hRc z_noX (hK.sub (tys' := []) [] rfl)) rfl rfl hl.1 rfl (lv_room (Nat.le_of_ble_eq_true rfl)) dX6_transforms_2 ⟨Nat.le_of_ble_eq_true rfl, Nat.le_of_ble_eq_true rfl⟩) hP hS hA (cells' := 0) (slots' := 0) rfl rfl (fun H locs hP hS => ?_)
  refine z_ifB_eq (tgt := 15) hx hb dX6_transforms_5 (by decide) (fun c_5 => ?_) (fun c_5 => absurd c_5 (by omega))
  refine lv_aload_n hx hb dX6_transforms_15 rfl (lv_at hl 0 rfl) ?_
  refine z_iconst hx hb dX6_transforms_16 ?_
  refine va_put (D := D) (ci := 5) (v := .int (zI 1)) (ty := .int) (C := RX6) (T := TX6) (N := 8) hx hb hts hi6 tyX6 tyX6_ok nmX6 hown hK hP hD hS 0 rfl rfl 7 (by decide) (hts (.fieldLink RX6 28 "ButterflyYardModel" "thrown" "I") (by decide +kernel)) (fun _ h9 => h9) rfl (by decide +kernel) rfl rfl (Nat.le_of_ble_eq_true rfl) dX6_transforms_17 (fun H locs hP hD hS => ?_)
  have hP : va_P D vwCl [(h0, .inr (5, [.ref ae, .ref al, .ref ap, .ref az, .ref ar, .int (zI np), .ref am, .int (zI 1)]))] H := hP
  have hD : va_D A [(h0, .inr (5, [.ref ae, .ref al, .ref ap, .ref az, .ref ar, .int (zI np), .ref am, .int (zI 1)]))] := hD
  refine z_iconst hx hb dX6_transforms_20 ?_
  exact z_iret hx hb hr hlocks rfl () (rfl) (trivial) hP hD hS dX6_transforms_21

set_option maxHeartbeats 4000000 in
set_option maxRecDepth 100000 in
theorem c_X6_transforms_1bf (l : Launch) (D : va_G) (cI : ClassId) (h0 : Nat) (ae : Nat) (al : Nat) (ap : Nat) (az : Nat) (ar : Nat) (am : Nat) (np : Int) (th : Int) (i : Int) (r : Int) (w : Int) (ha_i : -2147483648 ≤ i ∧ i ≤ 2147483647) (ha_r : -2147483648 ≤ r ∧ r ≤ 2147483647) (ha_w : -2147483648 ≤ w ∧ w ≤ 2147483647) (hnp_ : 0 ≤ np ∧ np ≤ 8) (hi0 : 0 ≤ i ∧ i < np) (hb_r : ¬ (0 ≤ r ∧ r < 4)) : zC l yX6_transforms wsX6_transforms ({ frames := 1, cells := 0, slots := 0, locals := 21 } : Room) D [(cI, .int)] [(h0, .inr (5, [.ref ae, .ref al, .ref ap, .ref az, .ref ar, .int (zI np), .ref am, .int (zI th)]))] [] [.ref h0, .int (zI i), .int (zI r), .int (zI w), .int (zI 0)] (S := Unit) (fun u => True) (fun u => some (.int (zI 0))) (fun u => [(h0, .inr (5, [.ref ae, .ref al, .ref ap, .ref az, .ref ar, .int (zI np), .ref am, .int (zI 1)]))]) := by
  refine z_start (cc := cX6_transforms) (maxL := 10) (ret := (some .int)) (own := RX6) (by decide) rfl rfl (Nat.le_of_ble_eq_true rfl) [(0, .ref h0), (1, .int (zI i)), (2, .int (zI r)), (3, .int (zI w)), (4, .int (zI 0))] rfl ?_
  intro pp ee s mm below meth cc A H ls hx hb hr hml hts hown hlocks hin hK hA hP hD hS hR0 hR hl
  have CF : CallFix pp mm cc cX6_transforms 10 s ([.ref h0, .int (zI i), .int (zI r), .int (zI w), .int (zI 0)] : List Value).toArray wsX6_transforms RX6 := ⟨hx, hb, hml, hown, hts⟩
  have hi6 : ∀ w ∈ wsX60, w ∈ wsX6_transforms := by decide +kernel
  refine lv_aload_n hx hb dX6_transforms_0 rfl (lv_at hl 0 rfl) ?_
  refine lv_iload_n hx hb dX6_transforms_1 rfl (lv_at hl 1 rfl) ?_
  have hRc := z_subR (ws := [(h0, .inr (5, [.ref ae, .ref al, .ref ap, .ref az, .ref ar, .int (zI np), .ref am, .int (zI th)]))]) (rs := []) (rc := [(h0, .inr (5, [.ref ae, .ref al, .ref ap, .ref az, .ref ar, .int (zI np), .ref am, .int (zI th)]))]) hP z_nilP (isR := [0]) rfl
  refine z_ro (ws := [(h0, .inr (5, [.ref ae, .ref al, .ref ap, .ref az, .ref ar, .int (zI np), .ref am, .int (zI th)]))]) (va_runV (As := [.int (zI i)]) (rest := []) CF (c_X6_isPlan l D h0 ae al ap az ar am np th i (by omega) (by omega) H.size) (cwV 1 hts gX6_transforms_X6_isPlan rfl rfl rfl (by decide +kernel) ⟨Nat.le_of_ble_eq_true rfl, Nat.le_of_ble_eq_true rfl⟩) (z_preV (va_recv hK hP (ci := 5) (q0 := 0) rfl rfl) z_nilP (z_nilD (A := A)) hRc z_noX (hK.sub (tys' := []) [] rfl)) rfl rfl hl.1 rfl (lv_room (Nat.le_of_ble_eq_true rfl)) dX6_transforms_2 ⟨Nat.le_of_ble_eq_true rfl, Nat.le_of_ble_eq_true rfl⟩) hP hS hA (cells' := 0) (slots' := 0) rfl rfl (fun H locs hP hS => ?_)
  refine z_ifB_eq (tgt := 15) hx hb dX6_transforms_5 (by decide) (fun c_5 => absurd c_5 (by omega)) (fun c_5 => ?_)
  refine lv_iload_n hx hb dX6_transforms_8 rfl (lv_at hl 2 rfl) ?_
  have hRc : va_P D vwCl [] H := z_nilP
  refine z_ro (ws := [(h0, .inr (5, [.ref ae, .ref al, .ref ap, .ref az, .ref ar, .int (zI np), .ref am, .int (zI th)]))]) (va_runS (As := [.int (zI r)]) (rest := []) CF (c_X6_isRow l D r (by omega) H.size) (va_cwS 1 hts gX6_transforms_X6_isRow rfl rfl rfl (by decide +kernel) ⟨Nat.le_of_ble_eq_true rfl, Nat.le_of_ble_eq_true rfl⟩) (z_preS z_nilP (z_nilD (A := A)) hRc z_noX (hK.sub (tys' := []) [] rfl)) rfl rfl hl.1 rfl (lv_room (Nat.le_of_ble_eq_true rfl)) dX6_transforms_9 ⟨Nat.le_of_ble_eq_true rfl, Nat.le_of_ble_eq_true rfl⟩) hP hS hA (cells' := 0) (slots' := 0) rfl rfl (fun H locs hP hS => ?_)
  refine z_ifB_ne (tgt := 22) hx hb dX6_transforms_12 (by decide) (fun c_12 => absurd c_12 (by omega)) (fun c_12 => ?_)
  refine lv_aload_n hx hb dX6_transforms_15 rfl (lv_at hl 0 rfl) ?_
  refine z_iconst hx hb dX6_transforms_16 ?_
  refine va_put (D := D) (ci := 5) (v := .int (zI 1)) (ty := .int) (C := RX6) (T := TX6) (N := 8) hx hb hts hi6 tyX6 tyX6_ok nmX6 hown hK hP hD hS 0 rfl rfl 7 (by decide) (hts (.fieldLink RX6 28 "ButterflyYardModel" "thrown" "I") (by decide +kernel)) (fun _ h9 => h9) rfl (by decide +kernel) rfl rfl (Nat.le_of_ble_eq_true rfl) dX6_transforms_17 (fun H locs hP hD hS => ?_)
  have hP : va_P D vwCl [(h0, .inr (5, [.ref ae, .ref al, .ref ap, .ref az, .ref ar, .int (zI np), .ref am, .int (zI 1)]))] H := hP
  have hD : va_D A [(h0, .inr (5, [.ref ae, .ref al, .ref ap, .ref az, .ref ar, .int (zI np), .ref am, .int (zI 1)]))] := hD
  refine z_iconst hx hb dX6_transforms_20 ?_
  exact z_iret hx hb hr hlocks rfl () (rfl) (trivial) hP hD hS dX6_transforms_21

set_option maxHeartbeats 4000000 in
set_option maxRecDepth 100000 in
theorem c_X6_transforms_2af (l : Launch) (D : va_G) (cI : ClassId) (h0 : Nat) (ae : Nat) (al : Nat) (ap : Nat) (az : Nat) (ar : Nat) (am : Nat) (np : Int) (th : Int) (i : Int) (r : Int) (w : Int) (ha_i : -2147483648 ≤ i ∧ i ≤ 2147483647) (ha_r : -2147483648 ≤ r ∧ r ≤ 2147483647) (ha_w : -2147483648 ≤ w ∧ w ≤ 2147483647) (hnp_ : 0 ≤ np ∧ np ≤ 8) (hi0 : 0 ≤ i ∧ i < np) (hr_r : 0 ≤ r ∧ r < 4) (hw_ : w < 0) : zC l yX6_transforms wsX6_transforms ({ frames := 1, cells := 0, slots := 0, locals := 21 } : Room) D [(cI, .int)] [(h0, .inr (5, [.ref ae, .ref al, .ref ap, .ref az, .ref ar, .int (zI np), .ref am, .int (zI th)]))] [] [.ref h0, .int (zI i), .int (zI r), .int (zI w), .int (zI 0)] (S := Unit) (fun u => True) (fun u => some (.int (zI 0))) (fun u => [(h0, .inr (5, [.ref ae, .ref al, .ref ap, .ref az, .ref ar, .int (zI np), .ref am, .int (zI 2)]))]) := by
  refine z_start (cc := cX6_transforms) (maxL := 10) (ret := (some .int)) (own := RX6) (by decide) rfl rfl (Nat.le_of_ble_eq_true rfl) [(0, .ref h0), (1, .int (zI i)), (2, .int (zI r)), (3, .int (zI w)), (4, .int (zI 0))] rfl ?_
  intro pp ee s mm below meth cc A H ls hx hb hr hml hts hown hlocks hin hK hA hP hD hS hR0 hR hl
  have CF : CallFix pp mm cc cX6_transforms 10 s ([.ref h0, .int (zI i), .int (zI r), .int (zI w), .int (zI 0)] : List Value).toArray wsX6_transforms RX6 := ⟨hx, hb, hml, hown, hts⟩
  have hi6 : ∀ w ∈ wsX60, w ∈ wsX6_transforms := by decide +kernel
  refine lv_aload_n hx hb dX6_transforms_0 rfl (lv_at hl 0 rfl) ?_
  refine lv_iload_n hx hb dX6_transforms_1 rfl (lv_at hl 1 rfl) ?_
  have hRc := z_subR (ws := [(h0, .inr (5, [.ref ae, .ref al, .ref ap, .ref az, .ref ar, .int (zI np), .ref am, .int (zI th)]))]) (rs := []) (rc := [(h0, .inr (5, [.ref ae, .ref al, .ref ap, .ref az, .ref ar, .int (zI np), .ref am, .int (zI th)]))]) hP z_nilP (isR := [0]) rfl
  refine z_ro (ws := [(h0, .inr (5, [.ref ae, .ref al, .ref ap, .ref az, .ref ar, .int (zI np), .ref am, .int (zI th)]))]) (va_runV (As := [.int (zI i)]) (rest := []) CF (c_X6_isPlan l D h0 ae al ap az ar am np th i (by omega) (by omega) H.size) (cwV 1 hts gX6_transforms_X6_isPlan rfl rfl rfl (by decide +kernel) ⟨Nat.le_of_ble_eq_true rfl, Nat.le_of_ble_eq_true rfl⟩) (z_preV (va_recv hK hP (ci := 5) (q0 := 0) rfl rfl) z_nilP (z_nilD (A := A)) hRc z_noX (hK.sub (tys' := []) [] rfl)) rfl rfl hl.1 rfl (lv_room (Nat.le_of_ble_eq_true rfl)) dX6_transforms_2 ⟨Nat.le_of_ble_eq_true rfl, Nat.le_of_ble_eq_true rfl⟩) hP hS hA (cells' := 0) (slots' := 0) rfl rfl (fun H locs hP hS => ?_)
  refine z_ifB_eq (tgt := 15) hx hb dX6_transforms_5 (by decide) (fun c_5 => absurd c_5 (by omega)) (fun c_5 => ?_)
  refine lv_iload_n hx hb dX6_transforms_8 rfl (lv_at hl 2 rfl) ?_
  have hRc : va_P D vwCl [] H := z_nilP
  refine z_ro (ws := [(h0, .inr (5, [.ref ae, .ref al, .ref ap, .ref az, .ref ar, .int (zI np), .ref am, .int (zI th)]))]) (va_runS (As := [.int (zI r)]) (rest := []) CF (c_X6_isRow l D r (by omega) H.size) (va_cwS 1 hts gX6_transforms_X6_isRow rfl rfl rfl (by decide +kernel) ⟨Nat.le_of_ble_eq_true rfl, Nat.le_of_ble_eq_true rfl⟩) (z_preS z_nilP (z_nilD (A := A)) hRc z_noX (hK.sub (tys' := []) [] rfl)) rfl rfl hl.1 rfl (lv_room (Nat.le_of_ble_eq_true rfl)) dX6_transforms_9 ⟨Nat.le_of_ble_eq_true rfl, Nat.le_of_ble_eq_true rfl⟩) hP hS hA (cells' := 0) (slots' := 0) rfl rfl (fun H locs hP hS => ?_)
  refine z_ifB_ne (tgt := 22) hx hb dX6_transforms_12 (by decide) (fun c_12 => ?_) (fun c_12 => absurd c_12 (by omega))
  refine lv_iload_n hx hb dX6_transforms_22 rfl (lv_at hl 3 rfl) ?_
  refine z_if_lt (tgt := 48) hx hb dX6_transforms_23 (by decide) (by omega) (fun c_23 => ?_) (fun c_23 => absurd c_23 (by omega))
  refine z_iconst hx hb dX6_transforms_48 ?_
  refine lv_istore (lv' := [(5, .int (zI 0)), (0, .ref h0), (1, .int (zI i)), (2, .int (zI r)), (3, .int (zI w)), (4, .int (zI 0))]) hx hb dX6_transforms_49 hl (by decide) rfl (fun ls hl => ?_)
  have hl := lv_sub hl [1, 2, 3, 4, 5, 0] rfl
  have hl : lv_has ls 10 [(0, .ref h0), (1, .int (zI i)), (2, .int (zI r)), (3, .int (zI w)), (4, .int (zI 0)), (5, .int (zI 0))] := hl
  refine lv_aload_n hx hb dX6_transforms_51 rfl (lv_at hl 0 rfl) ?_
  refine lv_iload hx hb dX6_transforms_52 (lv_at hl 5 rfl) ?_
  refine z_if_ne (tgt := 61) hx hb dX6_transforms_54 (by decide) (by omega) (fun c_54 => absurd c_54 (by omega)) (fun c_54 => ?_)
  refine z_iconst hx hb dX6_transforms_57 ?_
  refine lv_goto (tgt := 81) hx hb dX6_transforms_58 (by decide) ?_
  refine va_put (D := D) (ci := 5) (v := .int (zI 2)) (ty := .int) (C := RX6) (T := TX6) (N := 8) hx hb hts hi6 tyX6 tyX6_ok nmX6 hown hK hP hD hS 0 rfl rfl 7 (by decide) (hts (.fieldLink RX6 28 "ButterflyYardModel" "thrown" "I") (by decide +kernel)) (fun _ h9 => h9) rfl (by decide +kernel) rfl rfl (Nat.le_of_ble_eq_true rfl) dX6_transforms_81 (fun H locs hP hD hS => ?_)
  have hP : va_P D vwCl [(h0, .inr (5, [.ref ae, .ref al, .ref ap, .ref az, .ref ar, .int (zI np), .ref am, .int (zI 2)]))] H := hP
  have hD : va_D A [(h0, .inr (5, [.ref ae, .ref al, .ref ap, .ref az, .ref ar, .int (zI np), .ref am, .int (zI 2)]))] := hD
  refine lv_aload_n hx hb dX6_transforms_84 rfl (lv_at hl 0 rfl) ?_
  refine va_get (D := D) (ci := 5) (C := RX6) (T := TX6) (N := 8) hx hb hts hi6 hown hK hP 0 rfl rfl 7 (by decide) (hts (.fieldLink RX6 28 "ButterflyYardModel" "thrown" "I") (by decide +kernel)) (fun _ h9 => h9) rfl dX6_transforms_85 ?_
  refine z_if_eq (tgt := 93) hx hb dX6_transforms_88 (by decide) (by omega) (fun c_88 => absurd c_88 (by omega)) (fun c_88 => ?_)
  refine z_iconst hx hb dX6_transforms_91 ?_
  exact z_iret hx hb hr hlocks rfl () (rfl) (trivial) hP hD hS dX6_transforms_92

set_option maxHeartbeats 4000000 in
set_option maxRecDepth 100000 in
theorem c_X6_transforms_2bf (l : Launch) (D : va_G) (cI : ClassId) (h0 : Nat) (ae : Nat) (al : Nat) (ap : Nat) (az : Nat) (ar : Nat) (am : Nat) (np : Int) (th : Int) (i : Int) (r : Int) (w : Int) (ha_i : -2147483648 ≤ i ∧ i ≤ 2147483647) (ha_r : -2147483648 ≤ r ∧ r ≤ 2147483647) (ha_w : -2147483648 ≤ w ∧ w ≤ 2147483647) (hnp_ : 0 ≤ np ∧ np ≤ 8) (hi0 : 0 ≤ i ∧ i < np) (hr_r : 0 ≤ r ∧ r < 4) (hw_ : 4 < w) : zC l yX6_transforms wsX6_transforms ({ frames := 1, cells := 0, slots := 0, locals := 21 } : Room) D [(cI, .int)] [(h0, .inr (5, [.ref ae, .ref al, .ref ap, .ref az, .ref ar, .int (zI np), .ref am, .int (zI th)]))] [] [.ref h0, .int (zI i), .int (zI r), .int (zI w), .int (zI 0)] (S := Unit) (fun u => True) (fun u => some (.int (zI 0))) (fun u => [(h0, .inr (5, [.ref ae, .ref al, .ref ap, .ref az, .ref ar, .int (zI np), .ref am, .int (zI 2)]))]) := by
  refine z_start (cc := cX6_transforms) (maxL := 10) (ret := (some .int)) (own := RX6) (by decide) rfl rfl (Nat.le_of_ble_eq_true rfl) [(0, .ref h0), (1, .int (zI i)), (2, .int (zI r)), (3, .int (zI w)), (4, .int (zI 0))] rfl ?_
  intro pp ee s mm below meth cc A H ls hx hb hr hml hts hown hlocks hin hK hA hP hD hS hR0 hR hl
  have CF : CallFix pp mm cc cX6_transforms 10 s ([.ref h0, .int (zI i), .int (zI r), .int (zI w), .int (zI 0)] : List Value).toArray wsX6_transforms RX6 := ⟨hx, hb, hml, hown, hts⟩
  have hi6 : ∀ w ∈ wsX60, w ∈ wsX6_transforms := by decide +kernel
  refine lv_aload_n hx hb dX6_transforms_0 rfl (lv_at hl 0 rfl) ?_
  refine lv_iload_n hx hb dX6_transforms_1 rfl (lv_at hl 1 rfl) ?_
  have hRc := z_subR (ws := [(h0, .inr (5, [.ref ae, .ref al, .ref ap, .ref az, .ref ar, .int (zI np), .ref am, .int (zI th)]))]) (rs := []) (rc := [(h0, .inr (5, [.ref ae, .ref al, .ref ap, .ref az, .ref ar, .int (zI np), .ref am, .int (zI th)]))]) hP z_nilP (isR := [0]) rfl
  refine z_ro (ws := [(h0, .inr (5, [.ref ae, .ref al, .ref ap, .ref az, .ref ar, .int (zI np), .ref am, .int (zI th)]))]) (va_runV (As := [.int (zI i)]) (rest := []) CF (c_X6_isPlan l D h0 ae al ap az ar am np th i (by omega) (by omega) H.size) (cwV 1 hts gX6_transforms_X6_isPlan rfl rfl rfl (by decide +kernel) ⟨Nat.le_of_ble_eq_true rfl, Nat.le_of_ble_eq_true rfl⟩) (z_preV (va_recv hK hP (ci := 5) (q0 := 0) rfl rfl) z_nilP (z_nilD (A := A)) hRc z_noX (hK.sub (tys' := []) [] rfl)) rfl rfl hl.1 rfl (lv_room (Nat.le_of_ble_eq_true rfl)) dX6_transforms_2 ⟨Nat.le_of_ble_eq_true rfl, Nat.le_of_ble_eq_true rfl⟩) hP hS hA (cells' := 0) (slots' := 0) rfl rfl (fun H locs hP hS => ?_)
  refine z_ifB_eq (tgt := 15) hx hb dX6_transforms_5 (by decide) (fun c_5 => absurd c_5 (by omega)) (fun c_5 => ?_)
  refine lv_iload_n hx hb dX6_transforms_8 rfl (lv_at hl 2 rfl) ?_
  have hRc : va_P D vwCl [] H := z_nilP
  refine z_ro (ws := [(h0, .inr (5, [.ref ae, .ref al, .ref ap, .ref az, .ref ar, .int (zI np), .ref am, .int (zI th)]))]) (va_runS (As := [.int (zI r)]) (rest := []) CF (c_X6_isRow l D r (by omega) H.size) (va_cwS 1 hts gX6_transforms_X6_isRow rfl rfl rfl (by decide +kernel) ⟨Nat.le_of_ble_eq_true rfl, Nat.le_of_ble_eq_true rfl⟩) (z_preS z_nilP (z_nilD (A := A)) hRc z_noX (hK.sub (tys' := []) [] rfl)) rfl rfl hl.1 rfl (lv_room (Nat.le_of_ble_eq_true rfl)) dX6_transforms_9 ⟨Nat.le_of_ble_eq_true rfl, Nat.le_of_ble_eq_true rfl⟩) hP hS hA (cells' := 0) (slots' := 0) rfl rfl (fun H locs hP hS => ?_)
  refine z_ifB_ne (tgt := 22) hx hb dX6_transforms_12 (by decide) (fun c_12 => ?_) (fun c_12 => absurd c_12 (by omega))
  refine lv_iload_n hx hb dX6_transforms_22 rfl (lv_at hl 3 rfl) ?_
  refine z_if_lt (tgt := 48) hx hb dX6_transforms_23 (by decide) (by omega) (fun c_23 => absurd c_23 (by omega)) (fun c_23 => ?_)
  refine lv_iload_n hx hb dX6_transforms_26 rfl (lv_at hl 3 rfl) ?_
  refine z_iconst hx hb dX6_transforms_27 ?_
  refine z_icmp_gt (tgt := 48) hx hb dX6_transforms_28 (by decide) (by omega) (fun c_28 => ?_) (fun c_28 => absurd c_28 (by omega))
  refine z_iconst hx hb dX6_transforms_48 ?_
  refine lv_istore (lv' := [(5, .int (zI 0)), (0, .ref h0), (1, .int (zI i)), (2, .int (zI r)), (3, .int (zI w)), (4, .int (zI 0))]) hx hb dX6_transforms_49 hl (by decide) rfl (fun ls hl => ?_)
  have hl := lv_sub hl [1, 2, 3, 4, 5, 0] rfl
  have hl : lv_has ls 10 [(0, .ref h0), (1, .int (zI i)), (2, .int (zI r)), (3, .int (zI w)), (4, .int (zI 0)), (5, .int (zI 0))] := hl
  refine lv_aload_n hx hb dX6_transforms_51 rfl (lv_at hl 0 rfl) ?_
  refine lv_iload hx hb dX6_transforms_52 (lv_at hl 5 rfl) ?_
  refine z_if_ne (tgt := 61) hx hb dX6_transforms_54 (by decide) (by omega) (fun c_54 => absurd c_54 (by omega)) (fun c_54 => ?_)
  refine z_iconst hx hb dX6_transforms_57 ?_
  refine lv_goto (tgt := 81) hx hb dX6_transforms_58 (by decide) ?_
  refine va_put (D := D) (ci := 5) (v := .int (zI 2)) (ty := .int) (C := RX6) (T := TX6) (N := 8) hx hb hts hi6 tyX6 tyX6_ok nmX6 hown hK hP hD hS 0 rfl rfl 7 (by decide) (hts (.fieldLink RX6 28 "ButterflyYardModel" "thrown" "I") (by decide +kernel)) (fun _ h9 => h9) rfl (by decide +kernel) rfl rfl (Nat.le_of_ble_eq_true rfl) dX6_transforms_81 (fun H locs hP hD hS => ?_)
  have hP : va_P D vwCl [(h0, .inr (5, [.ref ae, .ref al, .ref ap, .ref az, .ref ar, .int (zI np), .ref am, .int (zI 2)]))] H := hP
  have hD : va_D A [(h0, .inr (5, [.ref ae, .ref al, .ref ap, .ref az, .ref ar, .int (zI np), .ref am, .int (zI 2)]))] := hD
  refine lv_aload_n hx hb dX6_transforms_84 rfl (lv_at hl 0 rfl) ?_
  refine va_get (D := D) (ci := 5) (C := RX6) (T := TX6) (N := 8) hx hb hts hi6 hown hK hP 0 rfl rfl 7 (by decide) (hts (.fieldLink RX6 28 "ButterflyYardModel" "thrown" "I") (by decide +kernel)) (fun _ h9 => h9) rfl dX6_transforms_85 ?_
  refine z_if_eq (tgt := 93) hx hb dX6_transforms_88 (by decide) (by omega) (fun c_88 => absurd c_88 (by omega)) (fun c_88 => ?_)
  refine z_iconst hx hb dX6_transforms_91 ?_
  exact z_iret hx hb hr hlocks rfl () (rfl) (trivial) hP hD hS dX6_transforms_92

set_option maxHeartbeats 4000000 in
set_option maxRecDepth 100000 in
theorem c_X6_transforms_2cf (l : Launch) (D : va_G) (cI : ClassId) (h0 : Nat) (ae : Nat) (al : Nat) (ap : Nat) (az : Nat) (ar : Nat) (am : Nat) (np : Int) (th : Int) (xz : Int → Int) (i : Int) (r : Int) (w : Int) (ha_i : -2147483648 ≤ i ∧ i ≤ 2147483647) (ha_r : -2147483648 ≤ r ∧ r ≤ 2147483647) (ha_w : -2147483648 ≤ w ∧ w ≤ 2147483647) (hnp_ : 0 ≤ np ∧ np ≤ 8) (hi0 : 0 ≤ i ∧ i < np) (hz_ : 1 ≤ xz i ∧ xz i ≤ 64) (hr_r : 0 ≤ r ∧ r < 4) (hw_ : 0 ≤ w ∧ w ≤ 4) (hw2 : wset (xz i) / 2 ^ w.toNat % 2 ≠ 1) : zC l yX6_transforms wsX6_transforms ({ frames := 2, cells := 0, slots := 0, locals := 46 } : Room) D [(cI, .int)] [(h0, .inr (5, [.ref ae, .ref al, .ref ap, .ref az, .ref ar, .int (zI np), .ref am, .int (zI th)]))] [(az, .inl (cI, 8, .inl (zA xz)))] [.ref h0, .int (zI i), .int (zI r), .int (zI w), .int (zI 0)] (S := Unit) (fun u => True) (fun u => some (.int (zI 0))) (fun u => [(h0, .inr (5, [.ref ae, .ref al, .ref ap, .ref az, .ref ar, .int (zI np), .ref am, .int (zI 2)]))]) := by
  refine z_start (cc := cX6_transforms) (maxL := 10) (ret := (some .int)) (own := RX6) (by decide) rfl rfl (Nat.le_of_ble_eq_true rfl) [(0, .ref h0), (1, .int (zI i)), (2, .int (zI r)), (3, .int (zI w)), (4, .int (zI 0))] rfl ?_
  intro pp ee s mm below meth cc A H ls hx hb hr hml hts hown hlocks hin hK hA hP hD hS hR0 hR hl
  have CF : CallFix pp mm cc cX6_transforms 10 s ([.ref h0, .int (zI i), .int (zI r), .int (zI w), .int (zI 0)] : List Value).toArray wsX6_transforms RX6 := ⟨hx, hb, hml, hown, hts⟩
  have hi6 : ∀ w ∈ wsX60, w ∈ wsX6_transforms := by decide +kernel
  refine lv_aload_n hx hb dX6_transforms_0 rfl (lv_at hl 0 rfl) ?_
  refine lv_iload_n hx hb dX6_transforms_1 rfl (lv_at hl 1 rfl) ?_
  have hRc := z_subR (ws := [(h0, .inr (5, [.ref ae, .ref al, .ref ap, .ref az, .ref ar, .int (zI np), .ref am, .int (zI th)]))]) (rs := [(az, .inl (cI, 8, .inl (zA xz)))]) (rc := [(h0, .inr (5, [.ref ae, .ref al, .ref ap, .ref az, .ref ar, .int (zI np), .ref am, .int (zI th)]))]) hP hR (isR := [0]) rfl
  refine z_ro (ws := [(h0, .inr (5, [.ref ae, .ref al, .ref ap, .ref az, .ref ar, .int (zI np), .ref am, .int (zI th)]))]) (va_runV (As := [.int (zI i)]) (rest := []) CF (c_X6_isPlan l D h0 ae al ap az ar am np th i (by omega) (by omega) H.size) (cwV 1 hts gX6_transforms_X6_isPlan rfl rfl rfl (by decide +kernel) ⟨Nat.le_of_ble_eq_true rfl, Nat.le_of_ble_eq_true rfl⟩) (z_preV (va_recv hK hP (ci := 5) (q0 := 0) rfl rfl) z_nilP (z_nilD (A := A)) hRc z_noX (hK.sub (tys' := []) [] rfl)) rfl rfl hl.1 rfl (lv_room (Nat.le_of_ble_eq_true rfl)) dX6_transforms_2 ⟨Nat.le_of_ble_eq_true rfl, Nat.le_of_ble_eq_true rfl⟩) hP hS hA (cells' := 0) (slots' := 0) rfl rfl (fun H locs hP hS => ?_)
  have hR := hR0.at hS
  refine z_ifB_eq (tgt := 15) hx hb dX6_transforms_5 (by decide) (fun c_5 => absurd c_5 (by omega)) (fun c_5 => ?_)
  refine lv_iload_n hx hb dX6_transforms_8 rfl (lv_at hl 2 rfl) ?_
  have hRc : va_P D vwCl [] H := z_nilP
  refine z_ro (ws := [(h0, .inr (5, [.ref ae, .ref al, .ref ap, .ref az, .ref ar, .int (zI np), .ref am, .int (zI th)]))]) (va_runS (As := [.int (zI r)]) (rest := []) CF (c_X6_isRow l D r (by omega) H.size) (va_cwS 1 hts gX6_transforms_X6_isRow rfl rfl rfl (by decide +kernel) ⟨Nat.le_of_ble_eq_true rfl, Nat.le_of_ble_eq_true rfl⟩) (z_preS z_nilP (z_nilD (A := A)) hRc z_noX (hK.sub (tys' := []) [] rfl)) rfl rfl hl.1 rfl (lv_room (Nat.le_of_ble_eq_true rfl)) dX6_transforms_9 ⟨Nat.le_of_ble_eq_true rfl, Nat.le_of_ble_eq_true rfl⟩) hP hS hA (cells' := 0) (slots' := 0) rfl rfl (fun H locs hP hS => ?_)
  have hR := hR0.at hS
  refine z_ifB_ne (tgt := 22) hx hb dX6_transforms_12 (by decide) (fun c_12 => ?_) (fun c_12 => absurd c_12 (by omega))
  refine lv_iload_n hx hb dX6_transforms_22 rfl (lv_at hl 3 rfl) ?_
  refine z_if_lt (tgt := 48) hx hb dX6_transforms_23 (by decide) (by omega) (fun c_23 => absurd c_23 (by omega)) (fun c_23 => ?_)
  refine lv_iload_n hx hb dX6_transforms_26 rfl (lv_at hl 3 rfl) ?_
  refine z_iconst hx hb dX6_transforms_27 ?_
  refine z_icmp_gt (tgt := 48) hx hb dX6_transforms_28 (by decide) (by omega) (fun c_28 => absurd c_28 (by omega)) (fun c_28 => ?_)
  refine lv_aload_n hx hb dX6_transforms_31 rfl (lv_at hl 0 rfl) ?_
  refine lv_iload_n hx hb dX6_transforms_32 rfl (lv_at hl 1 rfl) ?_
  have hRc := z_subR (ws := [(h0, .inr (5, [.ref ae, .ref al, .ref ap, .ref az, .ref ar, .int (zI np), .ref am, .int (zI th)]))]) (rs := [(az, .inl (cI, 8, .inl (zA xz)))]) (rc := [(h0, .inr (5, [.ref ae, .ref al, .ref ap, .ref az, .ref ar, .int (zI np), .ref am, .int (zI th)])), (az, .inl (cI, 8, .inl (zA xz)))]) hP hR (isR := [0, 1]) rfl
  refine z_ro (ws := [(h0, .inr (5, [.ref ae, .ref al, .ref ap, .ref az, .ref ar, .int (zI np), .ref am, .int (zI th)]))]) (va_runV (As := [.int (zI i)]) (rest := []) CF (c_X6_waySet l D cI h0 ae al ap az ar am np th xz i (by omega) (by omega) (by omega) H.size) (cwV 1 hts gX6_transforms_X6_waySet rfl rfl rfl (by decide +kernel) ⟨Nat.le_of_ble_eq_true rfl, Nat.le_of_ble_eq_true rfl⟩) (z_preV (va_recv hK hP (ci := 5) (q0 := 0) rfl rfl) z_nilP (z_nilD (A := A)) hRc z_noX (hK.sub (tys' := [(cI, .int)]) [0] rfl)) rfl rfl hl.1 rfl (lv_room (Nat.le_of_ble_eq_true rfl)) dX6_transforms_33 ⟨Nat.le_of_ble_eq_true rfl, Nat.le_of_ble_eq_true rfl⟩) hP hS hA (cells' := 0) (slots' := 0) rfl rfl (fun H locs hP hS => ?_)
  have hR := hR0.at hS
  refine lv_iload_n hx hb dX6_transforms_36 rfl (lv_at hl 3 rfl) ?_
  refine z_ishr hx hb dX6_transforms_37 (by have := wset_rng (xz i); omega) (by omega) ?_
  refine z_iconst hx hb dX6_transforms_38 ?_
  refine z_iand1 hx hb dX6_transforms_39 (by have h0 := wset_rng (xz i); exact z_div (by omega) (Int.pow_pos (by decide)) (by omega)) ?_
  refine z_iconst hx hb dX6_transforms_40 ?_
  refine z_icmp_ne (tgt := 48) hx hb dX6_transforms_41 (by decide) (by omega) (fun c_41 => ?_) (fun c_41 => absurd c_41 (by exact hw2))
  refine z_iconst hx hb dX6_transforms_48 ?_
  refine lv_istore (lv' := [(5, .int (zI 0)), (0, .ref h0), (1, .int (zI i)), (2, .int (zI r)), (3, .int (zI w)), (4, .int (zI 0))]) hx hb dX6_transforms_49 hl (by decide) rfl (fun ls hl => ?_)
  have hl := lv_sub hl [1, 2, 3, 4, 5, 0] rfl
  have hl : lv_has ls 10 [(0, .ref h0), (1, .int (zI i)), (2, .int (zI r)), (3, .int (zI w)), (4, .int (zI 0)), (5, .int (zI 0))] := hl
  refine lv_aload_n hx hb dX6_transforms_51 rfl (lv_at hl 0 rfl) ?_
  refine lv_iload hx hb dX6_transforms_52 (lv_at hl 5 rfl) ?_
  refine z_if_ne (tgt := 61) hx hb dX6_transforms_54 (by decide) (by omega) (fun c_54 => absurd c_54 (by omega)) (fun c_54 => ?_)
  refine z_iconst hx hb dX6_transforms_57 ?_
  refine lv_goto (tgt := 81) hx hb dX6_transforms_58 (by decide) ?_
  refine va_put (D := D) (ci := 5) (v := .int (zI 2)) (ty := .int) (C := RX6) (T := TX6) (N := 8) hx hb hts hi6 tyX6 tyX6_ok nmX6 hown hK hP hD hS 0 rfl rfl 7 (by decide) (hts (.fieldLink RX6 28 "ButterflyYardModel" "thrown" "I") (by decide +kernel)) (fun _ h9 => h9) rfl (by decide +kernel) rfl rfl (Nat.le_of_ble_eq_true rfl) dX6_transforms_81 (fun H locs hP hD hS => ?_)
  have hP : va_P D vwCl [(h0, .inr (5, [.ref ae, .ref al, .ref ap, .ref az, .ref ar, .int (zI np), .ref am, .int (zI 2)]))] H := hP
  have hD : va_D A [(h0, .inr (5, [.ref ae, .ref al, .ref ap, .ref az, .ref ar, .int (zI np), .ref am, .int (zI 2)]))] := hD
  have hR := hR0.at hS
  refine lv_aload_n hx hb dX6_transforms_84 rfl (lv_at hl 0 rfl) ?_
  refine va_get (D := D) (ci := 5) (C := RX6) (T := TX6) (N := 8) hx hb hts hi6 hown hK hP 0 rfl rfl 7 (by decide) (hts (.fieldLink RX6 28 "ButterflyYardModel" "thrown" "I") (by decide +kernel)) (fun _ h9 => h9) rfl dX6_transforms_85 ?_
  refine z_if_eq (tgt := 93) hx hb dX6_transforms_88 (by decide) (by omega) (fun c_88 => absurd c_88 (by omega)) (fun c_88 => ?_)
  refine z_iconst hx hb dX6_transforms_91 ?_
  exact z_iret hx hb hr hlocks rfl () (rfl) (trivial) hP hD hS dX6_transforms_92

set_option maxHeartbeats 4000000 in
set_option maxRecDepth 100000 in
theorem c_X6_transforms_3f (l : Launch) (D : va_G) (cI : ClassId) (h0 : Nat) (ae : Nat) (al : Nat) (ap : Nat) (az : Nat) (ar : Nat) (am : Nat) (np : Int) (th : Int) (xl : Int → Int) (xz : Int → Int) (i : Int) (r : Int) (w : Int) (ha_i : -2147483648 ≤ i ∧ i ≤ 2147483647) (ha_r : -2147483648 ≤ r ∧ r ≤ 2147483647) (ha_w : -2147483648 ≤ w ∧ w ≤ 2147483647) (hnp_ : 0 ≤ np ∧ np ≤ 8) (hi0 : 0 ≤ i ∧ i < np) (hz_ : 1 ≤ xz i ∧ xz i ≤ 64) (hr_r : 0 ≤ r ∧ r < 4) (hxl_r : 0 ≤ xl r ∧ xl r ≤ 64) (hw_ : 0 ≤ w ∧ w ≤ 4) (hw2 : wset (xz i) / 2 ^ w.toNat % 2 = 1) (hlz : xz i < xl r) : zC l yX6_transforms wsX6_transforms ({ frames := 2, cells := 0, slots := 0, locals := 46 } : Room) D [(cI, .int)] [(h0, .inr (5, [.ref ae, .ref al, .ref ap, .ref az, .ref ar, .int (zI np), .ref am, .int (zI th)]))] [(al, .inl (cI, 4, .inl (zA xl))), (az, .inl (cI, 8, .inl (zA xz)))] [.ref h0, .int (zI i), .int (zI r), .int (zI w), .int (zI 0)] (S := Unit) (fun u => True) (fun u => some (.int (zI 0))) (fun u => [(h0, .inr (5, [.ref ae, .ref al, .ref ap, .ref az, .ref ar, .int (zI np), .ref am, .int (zI 3)]))]) := by
  refine z_start (cc := cX6_transforms) (maxL := 10) (ret := (some .int)) (own := RX6) (by decide) rfl rfl (Nat.le_of_ble_eq_true rfl) [(0, .ref h0), (1, .int (zI i)), (2, .int (zI r)), (3, .int (zI w)), (4, .int (zI 0))] rfl ?_
  intro pp ee s mm below meth cc A H ls hx hb hr hml hts hown hlocks hin hK hA hP hD hS hR0 hR hl
  have CF : CallFix pp mm cc cX6_transforms 10 s ([.ref h0, .int (zI i), .int (zI r), .int (zI w), .int (zI 0)] : List Value).toArray wsX6_transforms RX6 := ⟨hx, hb, hml, hown, hts⟩
  have hi6 : ∀ w ∈ wsX60, w ∈ wsX6_transforms := by decide +kernel
  refine lv_aload_n hx hb dX6_transforms_0 rfl (lv_at hl 0 rfl) ?_
  refine lv_iload_n hx hb dX6_transforms_1 rfl (lv_at hl 1 rfl) ?_
  have hRc := z_subR (ws := [(h0, .inr (5, [.ref ae, .ref al, .ref ap, .ref az, .ref ar, .int (zI np), .ref am, .int (zI th)]))]) (rs := [(al, .inl (cI, 4, .inl (zA xl))), (az, .inl (cI, 8, .inl (zA xz)))]) (rc := [(h0, .inr (5, [.ref ae, .ref al, .ref ap, .ref az, .ref ar, .int (zI np), .ref am, .int (zI th)]))]) hP hR (isR := [0]) rfl
  refine z_ro (ws := [(h0, .inr (5, [.ref ae, .ref al, .ref ap, .ref az, .ref ar, .int (zI np), .ref am, .int (zI th)]))]) (va_runV (As := [.int (zI i)]) (rest := []) CF (c_X6_isPlan l D h0 ae al ap az ar am np th i (by omega) (by omega) H.size) (cwV 1 hts gX6_transforms_X6_isPlan rfl rfl rfl (by decide +kernel) ⟨Nat.le_of_ble_eq_true rfl, Nat.le_of_ble_eq_true rfl⟩) (z_preV (va_recv hK hP (ci := 5) (q0 := 0) rfl rfl) z_nilP (z_nilD (A := A)) hRc z_noX (hK.sub (tys' := []) [] rfl)) rfl rfl hl.1 rfl (lv_room (Nat.le_of_ble_eq_true rfl)) dX6_transforms_2 ⟨Nat.le_of_ble_eq_true rfl, Nat.le_of_ble_eq_true rfl⟩) hP hS hA (cells' := 0) (slots' := 0) rfl rfl (fun H locs hP hS => ?_)
  have hR := hR0.at hS
  refine z_ifB_eq (tgt := 15) hx hb dX6_transforms_5 (by decide) (fun c_5 => absurd c_5 (by omega)) (fun c_5 => ?_)
  refine lv_iload_n hx hb dX6_transforms_8 rfl (lv_at hl 2 rfl) ?_
  have hRc : va_P D vwCl [] H := z_nilP
  refine z_ro (ws := [(h0, .inr (5, [.ref ae, .ref al, .ref ap, .ref az, .ref ar, .int (zI np), .ref am, .int (zI th)]))]) (va_runS (As := [.int (zI r)]) (rest := []) CF (c_X6_isRow l D r (by omega) H.size) (va_cwS 1 hts gX6_transforms_X6_isRow rfl rfl rfl (by decide +kernel) ⟨Nat.le_of_ble_eq_true rfl, Nat.le_of_ble_eq_true rfl⟩) (z_preS z_nilP (z_nilD (A := A)) hRc z_noX (hK.sub (tys' := []) [] rfl)) rfl rfl hl.1 rfl (lv_room (Nat.le_of_ble_eq_true rfl)) dX6_transforms_9 ⟨Nat.le_of_ble_eq_true rfl, Nat.le_of_ble_eq_true rfl⟩) hP hS hA (cells' := 0) (slots' := 0) rfl rfl (fun H locs hP hS => ?_)
  have hR := hR0.at hS
  refine z_ifB_ne (tgt := 22) hx hb dX6_transforms_12 (by decide) (fun c_12 => ?_) (fun c_12 => absurd c_12 (by omega))
  refine lv_iload_n hx hb dX6_transforms_22 rfl (lv_at hl 3 rfl) ?_
  refine z_if_lt (tgt := 48) hx hb dX6_transforms_23 (by decide) (by omega) (fun c_23 => absurd c_23 (by omega)) (fun c_23 => ?_)
  refine lv_iload_n hx hb dX6_transforms_26 rfl (lv_at hl 3 rfl) ?_
  refine z_iconst hx hb dX6_transforms_27 ?_
  refine z_icmp_gt (tgt := 48) hx hb dX6_transforms_28 (by decide) (by omega) (fun c_28 => absurd c_28 (by omega)) (fun c_28 => ?_)
  refine lv_aload_n hx hb dX6_transforms_31 rfl (lv_at hl 0 rfl) ?_
  refine lv_iload_n hx hb dX6_transforms_32 rfl (lv_at hl 1 rfl) ?_
  have hRc := z_subR (ws := [(h0, .inr (5, [.ref ae, .ref al, .ref ap, .ref az, .ref ar, .int (zI np), .ref am, .int (zI th)]))]) (rs := [(al, .inl (cI, 4, .inl (zA xl))), (az, .inl (cI, 8, .inl (zA xz)))]) (rc := [(h0, .inr (5, [.ref ae, .ref al, .ref ap, .ref az, .ref ar, .int (zI np), .ref am, .int (zI th)])), (az, .inl (cI, 8, .inl (zA xz)))]) hP hR (isR := [0, 2]) rfl
  refine z_ro (ws := [(h0, .inr (5, [.ref ae, .ref al, .ref ap, .ref az, .ref ar, .int (zI np), .ref am, .int (zI th)]))]) (va_runV (As := [.int (zI i)]) (rest := []) CF (c_X6_waySet l D cI h0 ae al ap az ar am np th xz i (by omega) (by omega) (by omega) H.size) (cwV 1 hts gX6_transforms_X6_waySet rfl rfl rfl (by decide +kernel) ⟨Nat.le_of_ble_eq_true rfl, Nat.le_of_ble_eq_true rfl⟩) (z_preV (va_recv hK hP (ci := 5) (q0 := 0) rfl rfl) z_nilP (z_nilD (A := A)) hRc z_noX (hK.sub (tys' := [(cI, .int)]) [0] rfl)) rfl rfl hl.1 rfl (lv_room (Nat.le_of_ble_eq_true rfl)) dX6_transforms_33 ⟨Nat.le_of_ble_eq_true rfl, Nat.le_of_ble_eq_true rfl⟩) hP hS hA (cells' := 0) (slots' := 0) rfl rfl (fun H locs hP hS => ?_)
  have hR := hR0.at hS
  refine lv_iload_n hx hb dX6_transforms_36 rfl (lv_at hl 3 rfl) ?_
  refine z_ishr hx hb dX6_transforms_37 (by have := wset_rng (xz i); omega) (by omega) ?_
  refine z_iconst hx hb dX6_transforms_38 ?_
  refine z_iand1 hx hb dX6_transforms_39 (by have h0 := wset_rng (xz i); exact z_div (by omega) (Int.pow_pos (by decide)) (by omega)) ?_
  refine z_iconst hx hb dX6_transforms_40 ?_
  refine z_icmp_ne (tgt := 48) hx hb dX6_transforms_41 (by decide) (by omega) (fun c_41 => absurd c_41 (by exact not_not_intro hw2)) (fun c_41 => ?_)
  refine z_iconst hx hb dX6_transforms_44 ?_
  refine lv_goto (tgt := 49) hx hb dX6_transforms_45 (by decide) ?_
  refine lv_istore (lv' := [(5, .int (zI 1)), (0, .ref h0), (1, .int (zI i)), (2, .int (zI r)), (3, .int (zI w)), (4, .int (zI 0))]) hx hb dX6_transforms_49 hl (by decide) rfl (fun ls hl => ?_)
  have hl := lv_sub hl [1, 2, 3, 4, 5, 0] rfl
  have hl : lv_has ls 10 [(0, .ref h0), (1, .int (zI i)), (2, .int (zI r)), (3, .int (zI w)), (4, .int (zI 0)), (5, .int (zI 1))] := hl
  refine lv_aload_n hx hb dX6_transforms_51 rfl (lv_at hl 0 rfl) ?_
  refine lv_iload hx hb dX6_transforms_52 (lv_at hl 5 rfl) ?_
  refine z_if_ne (tgt := 61) hx hb dX6_transforms_54 (by decide) (by omega) (fun c_54 => ?_) (fun c_54 => absurd c_54 (by omega))
  refine lv_aload_n hx hb dX6_transforms_61 rfl (lv_at hl 0 rfl) ?_
  refine va_get (D := D) (ci := 5) (C := RX6) (T := TX6) (N := 8) hx hb hts hi6 hown hK hP 0 rfl rfl 1 (by decide) (hts (.fieldLink RX6 13 "ButterflyYardModel" "lengths" "[I") (by decide +kernel)) (fun _ h9 => h9) rfl dX6_transforms_62 ?_
  refine lv_iload_n hx hb dX6_transforms_65 rfl (lv_at hl 2 rfl) ?_
  refine z_iald (cA := cI) (n := 4) (g := xl) hx hb hK hR 0 0 rfl rfl rfl (by omega) dX6_transforms_66 ?_
  refine lv_aload_n hx hb dX6_transforms_67 rfl (lv_at hl 0 rfl) ?_
  refine va_get (D := D) (ci := 5) (C := RX6) (T := TX6) (N := 8) hx hb hts hi6 hown hK hP 0 rfl rfl 3 (by decide) (hts (.fieldLink RX6 19 "ButterflyYardModel" "sizes" "[I") (by decide +kernel)) (fun _ h9 => h9) rfl dX6_transforms_68 ?_
  refine lv_iload_n hx hb dX6_transforms_71 rfl (lv_at hl 1 rfl) ?_
  refine z_iald (cA := cI) (n := 8) (g := xz) hx hb hK hR 1 0 rfl rfl rfl (by omega) dX6_transforms_72 ?_
  refine z_icmp_le (tgt := 80) hx hb dX6_transforms_73 (by decide) (by omega) (fun c_73 => absurd c_73 (by omega)) (fun c_73 => ?_)
  refine z_iconst hx hb dX6_transforms_76 ?_
  refine lv_goto (tgt := 81) hx hb dX6_transforms_77 (by decide) ?_
  refine va_put (D := D) (ci := 5) (v := .int (zI 3)) (ty := .int) (C := RX6) (T := TX6) (N := 8) hx hb hts hi6 tyX6 tyX6_ok nmX6 hown hK hP hD hS 0 rfl rfl 7 (by decide) (hts (.fieldLink RX6 28 "ButterflyYardModel" "thrown" "I") (by decide +kernel)) (fun _ h9 => h9) rfl (by decide +kernel) rfl rfl (Nat.le_of_ble_eq_true rfl) dX6_transforms_81 (fun H locs hP hD hS => ?_)
  have hP : va_P D vwCl [(h0, .inr (5, [.ref ae, .ref al, .ref ap, .ref az, .ref ar, .int (zI np), .ref am, .int (zI 3)]))] H := hP
  have hD : va_D A [(h0, .inr (5, [.ref ae, .ref al, .ref ap, .ref az, .ref ar, .int (zI np), .ref am, .int (zI 3)]))] := hD
  have hR := hR0.at hS
  refine lv_aload_n hx hb dX6_transforms_84 rfl (lv_at hl 0 rfl) ?_
  refine va_get (D := D) (ci := 5) (C := RX6) (T := TX6) (N := 8) hx hb hts hi6 hown hK hP 0 rfl rfl 7 (by decide) (hts (.fieldLink RX6 28 "ButterflyYardModel" "thrown" "I") (by decide +kernel)) (fun _ h9 => h9) rfl dX6_transforms_85 ?_
  refine z_if_eq (tgt := 93) hx hb dX6_transforms_88 (by decide) (by omega) (fun c_88 => absurd c_88 (by omega)) (fun c_88 => ?_)
  refine z_iconst hx hb dX6_transforms_91 ?_
  exact z_iret hx hb hr hlocks rfl () (rfl) (trivial) hP hD hS dX6_transforms_92

set_option maxHeartbeats 4000000 in
set_option maxRecDepth 100000 in
theorem c_X6_transforms_okf (l : Launch) (D : va_G) (cI : ClassId) (h0 : Nat) (ae : Nat) (al : Nat) (ap : Nat) (az : Nat) (ar : Nat) (am : Nat) (np : Int) (th : Int) (xe : Int → Int) (xl : Int → Int) (xm : Int → Int) (xp : Int → Int) (xz : Int → Int) (xr : Int → Int) (i : Int) (r : Int) (w : Int) (ha_i : -2147483648 ≤ i ∧ i ≤ 2147483647) (ha_r : -2147483648 ≤ r ∧ r ≤ 2147483647) (ha_w : -2147483648 ≤ w ∧ w ≤ 2147483647) (hnp_ : 0 ≤ np ∧ np ≤ 8) (hi0 : 0 ≤ i ∧ i < np) (hz_ : 1 ≤ xz i ∧ xz i ≤ 64) (hp_ : 2 ≤ xp i ∧ xp i ≤ 10000) (hrt : 0 ≤ xr i ∧ xr i ≤ 10000) (hr_r : 0 ≤ r ∧ r < 4) (hxl_r : 0 ≤ xl r ∧ xl r ≤ 64) (hxe : ∀ k, 0 ≤ k → k < 256 → -1000000 ≤ xe k ∧ xe k ≤ 1000000) (hw_ : 0 ≤ w ∧ w ≤ 4) (hw2 : wset (xz i) / 2 ^ w.toNat % 2 = 1) (hlz : xl r ≤ xz i) : zC l yX6_transforms wsX6_transforms ({ frames := 3, cells := 0, slots := 0, locals := 74 } : Room) D [(cI, .int)] [(h0, .inr (5, [.ref ae, .ref al, .ref ap, .ref az, .ref ar, .int (zI np), .ref am, .int (zI th)])), (ae, .inl (cI, 256, .inl (zA xe))), (al, .inl (cI, 4, .inl (zA xl))), (am, .inl (cI, 64, .inl (zA xm)))] [(ap, .inl (cI, 8, .inl (zA xp))), (az, .inl (cI, 8, .inl (zA xz))), (ar, .inl (cI, 8, .inl (zA xr)))] [.ref h0, .int (zI i), .int (zI r), .int (zI w), .int (zI 0)] (S := (Int → Int) × (Int → Int)) (fun (xe2, xm2) => (∀ k, 0 ≤ k → k < xz i → xe2 (64 * r + k) = sumR (xp i) (xz i) (xr i) (fun j => rowAt (eRow xe r) (xl r) j % xp i) k * 1 % xp i) ∧ (∀ x, x < 64 * r ∨ 64 * r + xz i ≤ x → xe2 x = xe x)) (fun (xe2, xm2) => some (.int (zI (sumR (xp i) (xz i) (xr i) (fun j => rowAt (eRow xe r) (xl r) j % xp i) 0 * 1 % xp i)))) (fun (xe2, xm2) => [(h0, .inr (5, [.ref ae, .ref al, .ref ap, .ref az, .ref ar, .int (zI np), .ref am, .int (zI 0)])), (ae, .inl (cI, 256, .inl (zA xe2))), (al, .inl (cI, 4, .inl (zA (zU xl r (xz i))))), (am, .inl (cI, 64, .inl (zA xm2)))]) := by
  have hfc := pwm_rng (b := xz i) (e := xp i - 2) (n := xp i) (by omega)
  have hrt2 := pwm_rng (b := xr i) (e := xp i - 2) (n := xp i) (by omega)
  refine z_start (cc := cX6_transforms) (maxL := 10) (ret := (some .int)) (own := RX6) (by decide) rfl rfl (Nat.le_of_ble_eq_true rfl) [(0, .ref h0), (1, .int (zI i)), (2, .int (zI r)), (3, .int (zI w)), (4, .int (zI 0))] rfl ?_
  intro pp ee s mm below meth cc A H ls hx hb hr hml hts hown hlocks hin hK hA hP hD hS hR0 hR hl
  have CF : CallFix pp mm cc cX6_transforms 10 s ([.ref h0, .int (zI i), .int (zI r), .int (zI w), .int (zI 0)] : List Value).toArray wsX6_transforms RX6 := ⟨hx, hb, hml, hown, hts⟩
  have hi6 : ∀ w ∈ wsX60, w ∈ wsX6_transforms := by decide +kernel
  refine lv_aload_n hx hb dX6_transforms_0 rfl (lv_at hl 0 rfl) ?_
  refine lv_iload_n hx hb dX6_transforms_1 rfl (lv_at hl 1 rfl) ?_
  have hRc := z_subR (ws := [(h0, .inr (5, [.ref ae, .ref al, .ref ap, .ref az, .ref ar, .int (zI np), .ref am, .int (zI th)])), (ae, .inl (cI, 256, .inl (zA xe))), (al, .inl (cI, 4, .inl (zA xl))), (am, .inl (cI, 64, .inl (zA xm)))]) (rs := [(ap, .inl (cI, 8, .inl (zA xp))), (az, .inl (cI, 8, .inl (zA xz))), (ar, .inl (cI, 8, .inl (zA xr)))]) (rc := [(h0, .inr (5, [.ref ae, .ref al, .ref ap, .ref az, .ref ar, .int (zI np), .ref am, .int (zI th)]))]) hP hR (isR := [0]) rfl
  refine z_ro (ws := [(h0, .inr (5, [.ref ae, .ref al, .ref ap, .ref az, .ref ar, .int (zI np), .ref am, .int (zI th)])), (ae, .inl (cI, 256, .inl (zA xe))), (al, .inl (cI, 4, .inl (zA xl))), (am, .inl (cI, 64, .inl (zA xm)))]) (va_runV (As := [.int (zI i)]) (rest := []) CF (c_X6_isPlan l D h0 ae al ap az ar am np th i (by omega) (by omega) H.size) (cwV 1 hts gX6_transforms_X6_isPlan rfl rfl rfl (by decide +kernel) ⟨Nat.le_of_ble_eq_true rfl, Nat.le_of_ble_eq_true rfl⟩) (z_preV (va_recv hK hP (ci := 5) (q0 := 0) rfl rfl) z_nilP (z_nilD (A := A)) hRc z_noX (hK.sub (tys' := []) [] rfl)) rfl rfl hl.1 rfl (lv_room (Nat.le_of_ble_eq_true rfl)) dX6_transforms_2 ⟨Nat.le_of_ble_eq_true rfl, Nat.le_of_ble_eq_true rfl⟩) hP hS hA (cells' := 0) (slots' := 0) rfl rfl (fun H locs hP hS => ?_)
  have hR := hR0.at hS
  refine z_ifB_eq (tgt := 15) hx hb dX6_transforms_5 (by decide) (fun c_5 => absurd c_5 (by omega)) (fun c_5 => ?_)
  refine lv_iload_n hx hb dX6_transforms_8 rfl (lv_at hl 2 rfl) ?_
  have hRc : va_P D vwCl [] H := z_nilP
  refine z_ro (ws := [(h0, .inr (5, [.ref ae, .ref al, .ref ap, .ref az, .ref ar, .int (zI np), .ref am, .int (zI th)])), (ae, .inl (cI, 256, .inl (zA xe))), (al, .inl (cI, 4, .inl (zA xl))), (am, .inl (cI, 64, .inl (zA xm)))]) (va_runS (As := [.int (zI r)]) (rest := []) CF (c_X6_isRow l D r (by omega) H.size) (va_cwS 1 hts gX6_transforms_X6_isRow rfl rfl rfl (by decide +kernel) ⟨Nat.le_of_ble_eq_true rfl, Nat.le_of_ble_eq_true rfl⟩) (z_preS z_nilP (z_nilD (A := A)) hRc z_noX (hK.sub (tys' := []) [] rfl)) rfl rfl hl.1 rfl (lv_room (Nat.le_of_ble_eq_true rfl)) dX6_transforms_9 ⟨Nat.le_of_ble_eq_true rfl, Nat.le_of_ble_eq_true rfl⟩) hP hS hA (cells' := 0) (slots' := 0) rfl rfl (fun H locs hP hS => ?_)
  have hR := hR0.at hS
  refine z_ifB_ne (tgt := 22) hx hb dX6_transforms_12 (by decide) (fun c_12 => ?_) (fun c_12 => absurd c_12 (by omega))
  refine lv_iload_n hx hb dX6_transforms_22 rfl (lv_at hl 3 rfl) ?_
  refine z_if_lt (tgt := 48) hx hb dX6_transforms_23 (by decide) (by omega) (fun c_23 => absurd c_23 (by omega)) (fun c_23 => ?_)
  refine lv_iload_n hx hb dX6_transforms_26 rfl (lv_at hl 3 rfl) ?_
  refine z_iconst hx hb dX6_transforms_27 ?_
  refine z_icmp_gt (tgt := 48) hx hb dX6_transforms_28 (by decide) (by omega) (fun c_28 => absurd c_28 (by omega)) (fun c_28 => ?_)
  refine lv_aload_n hx hb dX6_transforms_31 rfl (lv_at hl 0 rfl) ?_
  refine lv_iload_n hx hb dX6_transforms_32 rfl (lv_at hl 1 rfl) ?_
  have hRc := z_subR (ws := [(h0, .inr (5, [.ref ae, .ref al, .ref ap, .ref az, .ref ar, .int (zI np), .ref am, .int (zI th)])), (ae, .inl (cI, 256, .inl (zA xe))), (al, .inl (cI, 4, .inl (zA xl))), (am, .inl (cI, 64, .inl (zA xm)))]) (rs := [(ap, .inl (cI, 8, .inl (zA xp))), (az, .inl (cI, 8, .inl (zA xz))), (ar, .inl (cI, 8, .inl (zA xr)))]) (rc := [(h0, .inr (5, [.ref ae, .ref al, .ref ap, .ref az, .ref ar, .int (zI np), .ref am, .int (zI th)])), (az, .inl (cI, 8, .inl (zA xz)))]) hP hR (isR := [0, 5]) rfl
  refine z_ro (ws := [(h0, .inr (5, [.ref ae, .ref al, .ref ap, .ref az, .ref ar, .int (zI np), .ref am, .int (zI th)])), (ae, .inl (cI, 256, .inl (zA xe))), (al, .inl (cI, 4, .inl (zA xl))), (am, .inl (cI, 64, .inl (zA xm)))]) (va_runV (As := [.int (zI i)]) (rest := []) CF (c_X6_waySet l D cI h0 ae al ap az ar am np th xz i (by omega) (by omega) (by omega) H.size) (cwV 1 hts gX6_transforms_X6_waySet rfl rfl rfl (by decide +kernel) ⟨Nat.le_of_ble_eq_true rfl, Nat.le_of_ble_eq_true rfl⟩) (z_preV (va_recv hK hP (ci := 5) (q0 := 0) rfl rfl) z_nilP (z_nilD (A := A)) hRc z_noX (hK.sub (tys' := [(cI, .int)]) [0] rfl)) rfl rfl hl.1 rfl (lv_room (Nat.le_of_ble_eq_true rfl)) dX6_transforms_33 ⟨Nat.le_of_ble_eq_true rfl, Nat.le_of_ble_eq_true rfl⟩) hP hS hA (cells' := 0) (slots' := 0) rfl rfl (fun H locs hP hS => ?_)
  have hR := hR0.at hS
  refine lv_iload_n hx hb dX6_transforms_36 rfl (lv_at hl 3 rfl) ?_
  refine z_ishr hx hb dX6_transforms_37 (by have := wset_rng (xz i); omega) (by omega) ?_
  refine z_iconst hx hb dX6_transforms_38 ?_
  refine z_iand1 hx hb dX6_transforms_39 (by have h0 := wset_rng (xz i); exact z_div (by omega) (Int.pow_pos (by decide)) (by omega)) ?_
  refine z_iconst hx hb dX6_transforms_40 ?_
  refine z_icmp_ne (tgt := 48) hx hb dX6_transforms_41 (by decide) (by omega) (fun c_41 => absurd c_41 (by exact not_not_intro hw2)) (fun c_41 => ?_)
  refine z_iconst hx hb dX6_transforms_44 ?_
  refine lv_goto (tgt := 49) hx hb dX6_transforms_45 (by decide) ?_
  refine lv_istore (lv' := [(5, .int (zI 1)), (0, .ref h0), (1, .int (zI i)), (2, .int (zI r)), (3, .int (zI w)), (4, .int (zI 0))]) hx hb dX6_transforms_49 hl (by decide) rfl (fun ls hl => ?_)
  have hl := lv_sub hl [1, 2, 3, 4, 5, 0] rfl
  have hl : lv_has ls 10 [(0, .ref h0), (1, .int (zI i)), (2, .int (zI r)), (3, .int (zI w)), (4, .int (zI 0)), (5, .int (zI 1))] := hl
  refine lv_aload_n hx hb dX6_transforms_51 rfl (lv_at hl 0 rfl) ?_
  refine lv_iload hx hb dX6_transforms_52 (lv_at hl 5 rfl) ?_
  refine z_if_ne (tgt := 61) hx hb dX6_transforms_54 (by decide) (by omega) (fun c_54 => ?_) (fun c_54 => absurd c_54 (by omega))
  refine lv_aload_n hx hb dX6_transforms_61 rfl (lv_at hl 0 rfl) ?_
  refine va_get (D := D) (ci := 5) (C := RX6) (T := TX6) (N := 8) hx hb hts hi6 hown hK hP 0 rfl rfl 1 (by decide) (hts (.fieldLink RX6 13 "ButterflyYardModel" "lengths" "[I") (by decide +kernel)) (fun _ h9 => h9) rfl dX6_transforms_62 ?_
  refine lv_iload_n hx hb dX6_transforms_65 rfl (lv_at hl 2 rfl) ?_
  refine z_iald (cA := cI) (n := 4) (g := xl) hx hb hK hP 2 0 rfl rfl rfl (by omega) dX6_transforms_66 ?_
  refine lv_aload_n hx hb dX6_transforms_67 rfl (lv_at hl 0 rfl) ?_
  refine va_get (D := D) (ci := 5) (C := RX6) (T := TX6) (N := 8) hx hb hts hi6 hown hK hP 0 rfl rfl 3 (by decide) (hts (.fieldLink RX6 19 "ButterflyYardModel" "sizes" "[I") (by decide +kernel)) (fun _ h9 => h9) rfl dX6_transforms_68 ?_
  refine lv_iload_n hx hb dX6_transforms_71 rfl (lv_at hl 1 rfl) ?_
  refine z_iald (cA := cI) (n := 8) (g := xz) hx hb hK hR 1 0 rfl rfl rfl (by omega) dX6_transforms_72 ?_
  refine z_icmp_le (tgt := 80) hx hb dX6_transforms_73 (by decide) (by omega) (fun c_73 => ?_) (fun c_73 => absurd c_73 (by omega))
  refine z_iconst hx hb dX6_transforms_80 ?_
  refine va_put (D := D) (ci := 5) (v := .int (zI 0)) (ty := .int) (C := RX6) (T := TX6) (N := 8) hx hb hts hi6 tyX6 tyX6_ok nmX6 hown hK hP hD hS 0 rfl rfl 7 (by decide) (hts (.fieldLink RX6 28 "ButterflyYardModel" "thrown" "I") (by decide +kernel)) (fun _ h9 => h9) rfl (by decide +kernel) rfl rfl (Nat.le_of_ble_eq_true rfl) dX6_transforms_81 (fun H locs hP hD hS => ?_)
  have hP : va_P D vwCl [(h0, .inr (5, [.ref ae, .ref al, .ref ap, .ref az, .ref ar, .int (zI np), .ref am, .int (zI 0)])), (ae, .inl (cI, 256, .inl (zA xe))), (al, .inl (cI, 4, .inl (zA xl))), (am, .inl (cI, 64, .inl (zA xm)))] H := hP
  have hD : va_D A [(h0, .inr (5, [.ref ae, .ref al, .ref ap, .ref az, .ref ar, .int (zI np), .ref am, .int (zI 0)])), (ae, .inl (cI, 256, .inl (zA xe))), (al, .inl (cI, 4, .inl (zA xl))), (am, .inl (cI, 64, .inl (zA xm)))] := hD
  have hR := hR0.at hS
  refine lv_aload_n hx hb dX6_transforms_84 rfl (lv_at hl 0 rfl) ?_
  refine va_get (D := D) (ci := 5) (C := RX6) (T := TX6) (N := 8) hx hb hts hi6 hown hK hP 0 rfl rfl 7 (by decide) (hts (.fieldLink RX6 28 "ButterflyYardModel" "thrown" "I") (by decide +kernel)) (fun _ h9 => h9) rfl dX6_transforms_85 ?_
  refine z_if_eq (tgt := 93) hx hb dX6_transforms_88 (by decide) (by omega) (fun c_88 => ?_) (fun c_88 => absurd c_88 (by omega))
  refine lv_aload_n hx hb dX6_transforms_93 rfl (lv_at hl 0 rfl) ?_
  refine va_get (D := D) (ci := 5) (C := RX6) (T := TX6) (N := 8) hx hb hts hi6 hown hK hP 0 rfl rfl 2 (by decide) (hts (.fieldLink RX6 16 "ButterflyYardModel" "primes" "[I") (by decide +kernel)) (fun _ h9 => h9) rfl dX6_transforms_94 ?_
  refine lv_iload_n hx hb dX6_transforms_97 rfl (lv_at hl 1 rfl) ?_
  refine z_iald (cA := cI) (n := 8) (g := xp) hx hb hK hR 0 0 rfl rfl rfl (by omega) dX6_transforms_98 ?_
  refine lv_istore (lv' := [(6, .int (zI (xp i))), (0, .ref h0), (1, .int (zI i)), (2, .int (zI r)), (3, .int (zI w)), (4, .int (zI 0)), (5, .int (zI 1))]) hx hb dX6_transforms_99 hl (by decide) rfl (fun ls hl => ?_)
  have hl := lv_sub hl [1, 2, 3, 4, 5, 6, 0] rfl
  have hl : lv_has ls 10 [(0, .ref h0), (1, .int (zI i)), (2, .int (zI r)), (3, .int (zI w)), (4, .int (zI 0)), (5, .int (zI 1)), (6, .int (zI (xp i)))] := hl
  refine lv_iload hx hb dX6_transforms_101 (lv_at hl 4 rfl) ?_
  refine z_if_eq (tgt := 120) hx hb dX6_transforms_103 (by decide) (by omega) (fun c_103 => ?_) (fun c_103 => absurd c_103 (by omega))
  refine lv_aload_n hx hb dX6_transforms_120 rfl (lv_at hl 0 rfl) ?_
  refine va_get (D := D) (ci := 5) (C := RX6) (T := TX6) (N := 8) hx hb hts hi6 hown hK hP 0 rfl rfl 4 (by decide) (hts (.fieldLink RX6 22 "ButterflyYardModel" "roots" "[I") (by decide +kernel)) (fun _ h9 => h9) rfl dX6_transforms_121 ?_
  refine lv_iload_n hx hb dX6_transforms_124 rfl (lv_at hl 1 rfl) ?_
  refine z_iald (cA := cI) (n := 8) (g := xr) hx hb hK hR 2 0 rfl rfl rfl (by omega) dX6_transforms_125 ?_
  refine lv_istore (lv' := [(7, .int (zI (xr i))), (0, .ref h0), (1, .int (zI i)), (2, .int (zI r)), (3, .int (zI w)), (4, .int (zI 0)), (5, .int (zI 1)), (6, .int (zI (xp i)))]) hx hb dX6_transforms_126 hl (by decide) rfl (fun ls hl => ?_)
  have hl := lv_sub hl [1, 2, 3, 4, 5, 6, 7, 0] rfl
  have hl : lv_has ls 10 [(0, .ref h0), (1, .int (zI i)), (2, .int (zI r)), (3, .int (zI w)), (4, .int (zI 0)), (5, .int (zI 1)), (6, .int (zI (xp i))), (7, .int (zI (xr i)))] := hl
  refine lv_iload hx hb dX6_transforms_128 (lv_at hl 4 rfl) ?_
  refine z_if_eq (tgt := 147) hx hb dX6_transforms_130 (by decide) (by omega) (fun c_130 => ?_) (fun c_130 => absurd c_130 (by omega))
  refine z_iconst hx hb dX6_transforms_147 ?_
  refine lv_istore (lv' := [(8, .int (zI 1)), (0, .ref h0), (1, .int (zI i)), (2, .int (zI r)), (3, .int (zI w)), (4, .int (zI 0)), (5, .int (zI 1)), (6, .int (zI (xp i))), (7, .int (zI (xr i)))]) hx hb dX6_transforms_148 hl (by decide) rfl (fun ls hl => ?_)
  have hl := lv_sub hl [1, 2, 3, 4, 5, 6, 7, 8, 0] rfl
  have hl : lv_has ls 10 [(0, .ref h0), (1, .int (zI i)), (2, .int (zI r)), (3, .int (zI w)), (4, .int (zI 0)), (5, .int (zI 1)), (6, .int (zI (xp i))), (7, .int (zI (xr i))), (8, .int (zI 1))] := hl
  refine z_iconst hx hb dX6_transforms_150 ?_
  refine lv_istore (lv' := [(9, .int (zI 0)), (0, .ref h0), (1, .int (zI i)), (2, .int (zI r)), (3, .int (zI w)), (4, .int (zI 0)), (5, .int (zI 1)), (6, .int (zI (xp i))), (7, .int (zI (xr i))), (8, .int (zI 1))]) hx hb dX6_transforms_151 hl (by decide) rfl (fun ls hl => ?_)
  have hl := lv_sub hl [1, 2, 3, 4, 5, 6, 7, 8, 9, 0] rfl
  have hl : lv_has ls 10 [(0, .ref h0), (1, .int (zI i)), (2, .int (zI r)), (3, .int (zI w)), (4, .int (zI 0)), (5, .int (zI 1)), (6, .int (zI (xp i))), (7, .int (zI (xr i))), (8, .int (zI 1)), (9, .int (zI 0))] := hl
  refine z_loop (σ := Int × (Int → Int)) (fun (k, xm2) => (xz i - k).toNat) (fun (k, xm2) H locs ls => (0 ≤ k ∧ k ≤ xz i) ∧ (∀ y, 0 ≤ y → y < k → xm2 y = sumR (xp i) (xz i) (xr i) (fun j => rowAt (eRow xe r) (xl r) j % xp i) y * 1 % xp i) ∧ va_P D vwCl [(h0, .inr (5, [.ref ae, .ref al, .ref ap, .ref az, .ref ar, .int (zI np), .ref am, .int (zI 0)])), (ae, .inl (cI, 256, .inl (zA xe))), (al, .inl (cI, 4, .inl (zA xl))), (am, .inl (cI, 64, .inl (zA xm2)))] H ∧ va_D A [(h0, .inr (5, [.ref ae, .ref al, .ref ap, .ref az, .ref ar, .int (zI np), .ref am, .int (zI 0)])), (ae, .inl (cI, 256, .inl (zA xe))), (al, .inl (cI, 4, .inl (zA xl))), (am, .inl (cI, 64, .inl (zA xm2)))] ∧ va_S A s.heap H locs ∧ lv_has ls 10 [(0, .ref h0), (1, .int (zI i)), (2, .int (zI r)), (3, .int (zI w)), (4, .int (zI 0)), (5, .int (zI 1)), (6, .int (zI (xp i))), (7, .int (zI (xr i))), (8, .int (zI 1)), (9, .int (zI k))]) (0, xm) ⟨(by omega), (fun k h1 h2 => absurd h2 (by omega)), hP, hD, hS, hl⟩ ?_
  intro ⟨k, xm2⟩ H locs ls hI ih_153
  obtain ⟨hk_, hm_, hP, hD, hS, hl⟩ := hI
  have hR := hR0.at hS
  refine lv_iload hx hb dX6_transforms_153 (lv_at hl 9 rfl) ?_
  refine lv_aload_n hx hb dX6_transforms_155 rfl (lv_at hl 0 rfl) ?_
  refine va_get (D := D) (ci := 5) (C := RX6) (T := TX6) (N := 8) hx hb hts hi6 hown hK hP 0 rfl rfl 3 (by decide) (hts (.fieldLink RX6 19 "ButterflyYardModel" "sizes" "[I") (by decide +kernel)) (fun _ h9 => h9) rfl dX6_transforms_156 ?_
  refine lv_iload_n hx hb dX6_transforms_159 rfl (lv_at hl 1 rfl) ?_
  refine z_iald (cA := cI) (n := 8) (g := xz) hx hb hK hR 1 0 rfl rfl rfl (by omega) dX6_transforms_160 ?_
  refine z_icmp_ge (tgt := 193) hx hb dX6_transforms_161 (by decide) (by omega) (fun c_161 => ?_) (fun c_161 => ?_)
  · refine lv_aload_n hx hb dX6_transforms_193 rfl (lv_at hl 0 rfl) ?_
    refine lv_iload_n hx hb dX6_transforms_194 rfl (lv_at hl 2 rfl) ?_
    refine lv_aload_n hx hb dX6_transforms_195 rfl (lv_at hl 0 rfl) ?_
    refine va_get (D := D) (ci := 5) (C := RX6) (T := TX6) (N := 8) hx hb hts hi6 hown hK hP 0 rfl rfl 3 (by decide) (hts (.fieldLink RX6 19 "ButterflyYardModel" "sizes" "[I") (by decide +kernel)) (fun _ h9 => h9) rfl dX6_transforms_196 ?_
    refine lv_iload_n hx hb dX6_transforms_199 rfl (lv_at hl 1 rfl) ?_
    refine z_iald (cA := cI) (n := 8) (g := xz) hx hb hK hR 1 0 rfl rfl rfl (by omega) dX6_transforms_200 ?_
    have hRc := z_subR (ws := [(h0, .inr (5, [.ref ae, .ref al, .ref ap, .ref az, .ref ar, .int (zI np), .ref am, .int (zI 0)])), (ae, .inl (cI, 256, .inl (zA xe))), (al, .inl (cI, 4, .inl (zA xl))), (am, .inl (cI, 64, .inl (zA xm2)))]) (rs := [(ap, .inl (cI, 8, .inl (zA xp))), (az, .inl (cI, 8, .inl (zA xz))), (ar, .inl (cI, 8, .inl (zA xr)))]) (rc := [(h0, .inr (5, [.ref ae, .ref al, .ref ap, .ref az, .ref ar, .int (zI np), .ref am, .int (zI 0)])), (am, .inl (cI, 64, .inl (zA xm2)))]) hP hR (isR := [0, 3]) rfl
    have hPc := hP.sub (ws' := [(ae, .inl (cI, 256, .inl (zA xe))), (al, .inl (cI, 4, .inl (zA xl)))]) [1, 2] rfl
    have hDc := hD.sub (ws' := [(ae, .inl (cI, 256, .inl (zA xe))), (al, .inl (cI, 4, .inl (zA xl)))]) [1, 2] (by decide) rfl
    refine z_mu (ws := [(h0, .inr (5, [.ref ae, .ref al, .ref ap, .ref az, .ref ar, .int (zI np), .ref am, .int (zI 0)])), (ae, .inl (cI, 256, .inl (zA xe))), (al, .inl (cI, 4, .inl (zA xl))), (am, .inl (cI, 64, .inl (zA xm2)))]) (wc := [(ae, .inl (cI, 256, .inl (zA xe))), (al, .inl (cI, 4, .inl (zA xl)))]) (wr := [(h0, .inr (5, [.ref ae, .ref al, .ref ap, .ref az, .ref ar, .int (zI np), .ref am, .int (zI 0)])), (am, .inl (cI, 64, .inl (zA xm2)))]) (va_runV (As := [.int (zI r), .int (zI (xz i))]) (rest := []) CF (c_X6_put l D cI h0 ae al ap az ar am np 0 xe xl xm2 r (xz i) (by omega) (by omega) H.size) (cwV 2 hts gX6_transforms_X6_put rfl rfl rfl (by decide +kernel) ⟨Nat.le_of_ble_eq_true rfl, Nat.le_of_ble_eq_true rfl⟩) (z_preV (va_recv hK hP (ci := 5) (q0 := 0) rfl rfl) hPc hDc hRc (z_dis (ws := [(h0, .inr (5, [.ref ae, .ref al, .ref ap, .ref az, .ref ar, .int (zI np), .ref am, .int (zI 0)])), (ae, .inl (cI, 256, .inl (zA xe))), (al, .inl (cI, 4, .inl (zA xl))), (am, .inl (cI, 64, .inl (zA xm2)))]) (rs := [(ap, .inl (cI, 8, .inl (zA xp))), (az, .inl (cI, 8, .inl (zA xz))), (ar, .inl (cI, 8, .inl (zA xr)))]) (wc := [(ae, .inl (cI, 256, .inl (zA xe))), (al, .inl (cI, 4, .inl (zA xl)))]) (rc := [(h0, .inr (5, [.ref ae, .ref al, .ref ap, .ref az, .ref ar, .int (zI np), .ref am, .int (zI 0)])), (am, .inl (cI, 64, .inl (zA xm2)))]) hD hR0 (isC := [1, 2]) (isR := [0, 3]) rfl rfl (by decide)) (hK.sub (tys' := [(cI, .int)]) [0] rfl)) rfl rfl hl.1 rfl (lv_room (Nat.le_of_ble_eq_true rfl)) dX6_transforms_201 ⟨Nat.le_of_ble_eq_true rfl, Nat.le_of_ble_eq_true rfl⟩) hP hD hS hA [1, 2] [0, 3] rfl rfl (by decide) (by decide) (cells' := 0) (slots' := 0) rfl rfl (fun u_201 H locs hp_201 hP hD hS => ?_)
    revert hp_201 hP hD
    generalize u_201 = xe2_201
    intro hp_201 hP hD
    have hp_201 : (∀ k, 0 ≤ k → k < (xz i) → xe2_201 (64 * r + k) = xm2 k) ∧ (∀ x, x < 64 * r ∨ 64 * r + (xz i) ≤ x → xe2_201 x = xe x) := hp_201
    have hP := hP.sub (ws' := [(h0, .inr (5, [.ref ae, .ref al, .ref ap, .ref az, .ref ar, .int (zI np), .ref am, .int (zI 0)])), (ae, .inl (cI, 256, .inl (zA xe2_201))), (al, .inl (cI, 4, .inl (zA (zU xl r (xz i))))), (am, .inl (cI, 64, .inl (zA xm2)))]) [0, 2, 3, 1] rfl
    have hD := hD.sub (ws' := [(h0, .inr (5, [.ref ae, .ref al, .ref ap, .ref az, .ref ar, .int (zI np), .ref am, .int (zI 0)])), (ae, .inl (cI, 256, .inl (zA xe2_201))), (al, .inl (cI, 4, .inl (zA (zU xl r (xz i))))), (am, .inl (cI, 64, .inl (zA xm2)))]) [0, 2, 3, 1] (by decide) rfl
    have hR := hR0.at hS
    refine lv_istore (lv' := [(9, .int (zI (xz i))), (0, .ref h0), (1, .int (zI i)), (2, .int (zI r)), (3, .int (zI w)), (4, .int (zI 0)), (5, .int (zI 1)), (6, .int (zI (xp i))), (7, .int (zI (xr i))), (8, .int (zI 1))]) hx hb dX6_transforms_204 hl (by decide) rfl (fun ls hl => ?_)
    have hl := lv_sub hl [1, 2, 3, 4, 5, 6, 7, 8, 9, 0] rfl
    have hl : lv_has ls 10 [(0, .ref h0), (1, .int (zI i)), (2, .int (zI r)), (3, .int (zI w)), (4, .int (zI 0)), (5, .int (zI 1)), (6, .int (zI (xp i))), (7, .int (zI (xr i))), (8, .int (zI 1)), (9, .int (zI (xz i)))] := hl
    refine lv_aload_n hx hb dX6_transforms_206 rfl (lv_at hl 0 rfl) ?_
    refine va_get (D := D) (ci := 5) (C := RX6) (T := TX6) (N := 8) hx hb hts hi6 hown hK hP 0 rfl rfl 6 (by decide) (hts (.fieldLink RX6 25 "ButterflyYardModel" "made" "[I") (by decide +kernel)) (fun _ h9 => h9) rfl dX6_transforms_207 ?_
    refine z_iconst hx hb dX6_transforms_210 ?_
    refine z_iald (cA := cI) (n := 64) (g := xm2) hx hb hK hP 3 0 rfl rfl rfl (by omega) dX6_transforms_211 ?_
    have hres : sumR (xp i) (xz i) (xr i) (fun j => rowAt (eRow xe r) (xl r) j % xp i) 0 * 1 % xp i = xm2 0 := by rw [hm_ 0 (by omega) (by omega)]
    exact z_iret hx hb hr hlocks rfl (xe2_201, xm2) (congrArg (fun z => some (Value.int (zI z))) hres) (by exact ⟨fun y h1 h2 => by show xe2_201 (64 * r + y) = _; rw [hp_201.1 y h1 h2]; exact hm_ y h1 (by omega), hp_201.2⟩) hP hD hS dX6_transforms_212
  · refine lv_aload_n hx hb dX6_transforms_164 rfl (lv_at hl 0 rfl) ?_
    refine va_get (D := D) (ci := 5) (C := RX6) (T := TX6) (N := 8) hx hb hts hi6 hown hK hP 0 rfl rfl 6 (by decide) (hts (.fieldLink RX6 25 "ButterflyYardModel" "made" "[I") (by decide +kernel)) (fun _ h9 => h9) rfl dX6_transforms_165 ?_
    refine lv_iload hx hb dX6_transforms_168 (lv_at hl 9 rfl) ?_
    refine lv_aload_n hx hb dX6_transforms_170 rfl (lv_at hl 0 rfl) ?_
    refine lv_iload_n hx hb dX6_transforms_171 rfl (lv_at hl 1 rfl) ?_
    refine lv_iload_n hx hb dX6_transforms_172 rfl (lv_at hl 2 rfl) ?_
    refine lv_iload hx hb dX6_transforms_173 (lv_at hl 9 rfl) ?_
    refine lv_iload hx hb dX6_transforms_175 (lv_at hl 7 rfl) ?_
    have hRc := z_subR (ws := [(h0, .inr (5, [.ref ae, .ref al, .ref ap, .ref az, .ref ar, .int (zI np), .ref am, .int (zI 0)])), (ae, .inl (cI, 256, .inl (zA xe))), (al, .inl (cI, 4, .inl (zA xl))), (am, .inl (cI, 64, .inl (zA xm2)))]) (rs := [(ap, .inl (cI, 8, .inl (zA xp))), (az, .inl (cI, 8, .inl (zA xz))), (ar, .inl (cI, 8, .inl (zA xr)))]) (rc := [(h0, .inr (5, [.ref ae, .ref al, .ref ap, .ref az, .ref ar, .int (zI np), .ref am, .int (zI 0)])), (ae, .inl (cI, 256, .inl (zA xe))), (al, .inl (cI, 4, .inl (zA xl))), (ap, .inl (cI, 8, .inl (zA xp))), (az, .inl (cI, 8, .inl (zA xz)))]) hP hR (isR := [0, 1, 2, 4, 5]) rfl
    refine z_ro (ws := [(h0, .inr (5, [.ref ae, .ref al, .ref ap, .ref az, .ref ar, .int (zI np), .ref am, .int (zI 0)])), (ae, .inl (cI, 256, .inl (zA xe))), (al, .inl (cI, 4, .inl (zA xl))), (am, .inl (cI, 64, .inl (zA xm2)))]) (va_runV (As := [.int (zI i), .int (zI r), .int (zI k), .int (zI (xr i))]) (rest := [.int (zI k), .ref am]) CF (c_X6_sumFor l D cI h0 ae al ap az ar am np 0 xe xl xp xz i r k (xr i) (by omega) (by omega) (by omega) (by omega) (by omega) (by exact hxl_r) (by exact hxe) (by omega) (by omega) H.size) (cwV 4 hts gX6_transforms_X6_sumFor rfl rfl rfl (by decide +kernel) ⟨Nat.le_of_ble_eq_true rfl, Nat.le_of_ble_eq_true rfl⟩) (z_preV (va_recv hK hP (ci := 5) (q0 := 0) rfl rfl) z_nilP (z_nilD (A := A)) hRc z_noX (hK.sub (tys' := [(cI, .int)]) [0] rfl)) rfl rfl hl.1 rfl (lv_room (Nat.le_of_ble_eq_true rfl)) dX6_transforms_177 ⟨Nat.le_of_ble_eq_true rfl, Nat.le_of_ble_eq_true rfl⟩) hP hS hA (cells' := 0) (slots' := 0) rfl rfl (fun H locs hP hS => ?_)
    have hR := hR0.at hS
    refine lv_iload hx hb dX6_transforms_180 (lv_at hl 8 rfl) ?_
    have hsr := z_rem (a := zT (fun j => (fun j => rowAt (eRow xe r) (xl r) j % xp i) j * pwm (pwm (xr i) k (xp i)) j (xp i)) (xz i)) (n := xp i) (by omega)
    have hsb := z_mulb (a := sumR (xp i) (xz i) (xr i) (fun j => rowAt (eRow xe r) (xl r) j % xp i) k) (b := 1) (A := 10000) (B := 10000) hsr.1 (by omega) (by have := hsr.2; show _ % _ ≤ 10000; omega) (by omega)
    refine z_imul hx hb dX6_transforms_182 ?_
    refine lv_iload hx hb dX6_transforms_183 (lv_at hl 6 rfl) ?_
    refine z_irem hx hb dX6_transforms_185 (by omega) (by omega) ?_
    have hm_185 := z_rem (a := (sumR (xp i) (xz i) (xr i) (fun j => rowAt (eRow xe r) (xl r) j % xp i) k) * 1) (n := xp i) (by omega)
    refine z_iast (cA := cI) (n := 64) (g := xm2) (i := k) (v := ((sumR (xp i) (xz i) (xr i) (fun j => rowAt (eRow xe r) (xl r) j % xp i) k) * 1) % (xp i)) hx hb hK hP hD hS 3 0 rfl rfl rfl (by omega) dX6_transforms_186 (fun H locs hP hD hS => ?_)
    have hP : va_P D vwCl [(h0, .inr (5, [.ref ae, .ref al, .ref ap, .ref az, .ref ar, .int (zI np), .ref am, .int (zI 0)])), (ae, .inl (cI, 256, .inl (zA xe))), (al, .inl (cI, 4, .inl (zA xl))), (am, .inl (cI, 64, .inl (zA (zU xm2 k (((sumR (xp i) (xz i) (xr i) (fun j => rowAt (eRow xe r) (xl r) j % xp i) k) * 1) % (xp i))))))] H := hP
    have hD : va_D A [(h0, .inr (5, [.ref ae, .ref al, .ref ap, .ref az, .ref ar, .int (zI np), .ref am, .int (zI 0)])), (ae, .inl (cI, 256, .inl (zA xe))), (al, .inl (cI, 4, .inl (zA xl))), (am, .inl (cI, 64, .inl (zA (zU xm2 k (((sumR (xp i) (xz i) (xr i) (fun j => rowAt (eRow xe r) (xl r) j % xp i) k) * 1) % (xp i))))))] := hD
    have hR := hR0.at hS
    refine lv_iinc (v := zI (k + 1)) (lv' := [(9, .int (zI (k + 1))), (0, .ref h0), (1, .int (zI i)), (2, .int (zI r)), (3, .int (zI w)), (4, .int (zI 0)), (5, .int (zI 1)), (6, .int (zI (xp i))), (7, .int (zI (xr i))), (8, .int (zI 1))]) hx hb dX6_transforms_187 hl (k := 9) rfl (zI_add _ _) (by decide) rfl (fun ls hl => ?_)
    have hl := lv_sub hl [1, 2, 3, 4, 5, 6, 7, 8, 9, 0] rfl
    have hl : lv_has ls 10 [(0, .ref h0), (1, .int (zI i)), (2, .int (zI r)), (3, .int (zI w)), (4, .int (zI 0)), (5, .int (zI 1)), (6, .int (zI (xp i))), (7, .int (zI (xr i))), (8, .int (zI 1)), (9, .int (zI (k + 1)))] := hl
    refine lv_goto (tgt := 153) hx hb dX6_transforms_190 (by decide) ?_
    exact ih_153 (k + 1, zU xm2 k (((sumR (xp i) (xz i) (xr i) (fun j => rowAt (eRow xe r) (xl r) j % xp i) k) * 1) % (xp i))) _ _ _ ⟨(by omega), (by exact zU_fill hm_ rfl), hP, hD, hS, hl⟩ (by show (xz i - (k + 1)).toNat < (xz i - k).toNat; omega)

set_option maxHeartbeats 4000000 in
set_option maxRecDepth 100000 in
theorem c_X6_forward_1a (l : Launch) (D : va_G) (cI : ClassId) (h0 : Nat) (ae : Nat) (al : Nat) (ap : Nat) (az : Nat) (ar : Nat) (am : Nat) (np : Int) (th : Int) (i : Int) (r : Int) (w : Int) (ha_i : -2147483648 ≤ i ∧ i ≤ 2147483647) (ha_r : -2147483648 ≤ r ∧ r ≤ 2147483647) (ha_w : -2147483648 ≤ w ∧ w ≤ 2147483647) (hnp_ : 0 ≤ np ∧ np ≤ 8) (hi0 : ¬ (0 ≤ i ∧ i < np)) : zC l yX6_forward wsX6_forward ({ frames := 2, cells := 0, slots := 0, locals := 50 } : Room) D [(cI, .int)] [(h0, .inr (5, [.ref ae, .ref al, .ref ap, .ref az, .ref ar, .int (zI np), .ref am, .int (zI th)]))] [] [.ref h0, .int (zI i), .int (zI r), .int (zI w)] (S := Unit) (fun u => True) (fun u => some (.int (zI 0))) (fun u => [(h0, .inr (5, [.ref ae, .ref al, .ref ap, .ref az, .ref ar, .int (zI np), .ref am, .int (zI 1)]))]) := by
  refine z_start (cc := cX6_forward) (maxL := 4) (ret := (some .int)) (own := RX6) (by decide) rfl rfl (Nat.le_of_ble_eq_true rfl) [(0, .ref h0), (1, .int (zI i)), (2, .int (zI r)), (3, .int (zI w))] rfl ?_
  intro pp ee s mm below meth cc A H ls hx hb hr hml hts hown hlocks hin hK hA hP hD hS hR0 hR hl
  have CF : CallFix pp mm cc cX6_forward 4 s ([.ref h0, .int (zI i), .int (zI r), .int (zI w)] : List Value).toArray wsX6_forward RX6 := ⟨hx, hb, hml, hown, hts⟩
  refine lv_aload_n hx hb dX6_forward_0 rfl (lv_at hl 0 rfl) ?_
  refine lv_iload_n hx hb dX6_forward_1 rfl (lv_at hl 1 rfl) ?_
  refine lv_iload_n hx hb dX6_forward_2 rfl (lv_at hl 2 rfl) ?_
  refine lv_iload_n hx hb dX6_forward_3 rfl (lv_at hl 3 rfl) ?_
  refine z_iconst hx hb dX6_forward_4 ?_
  have hRc : va_P D vwCl [] H := z_nilP
  have hPc := hP.sub (ws' := [(h0, .inr (5, [.ref ae, .ref al, .ref ap, .ref az, .ref ar, .int (zI np), .ref am, .int (zI th)]))]) [0] rfl
  have hDc := hD.sub (ws' := [(h0, .inr (5, [.ref ae, .ref al, .ref ap, .ref az, .ref ar, .int (zI np), .ref am, .int (zI th)]))]) [0] (by decide) rfl
  refine z_mu (ws := [(h0, .inr (5, [.ref ae, .ref al, .ref ap, .ref az, .ref ar, .int (zI np), .ref am, .int (zI th)]))]) (wc := [(h0, .inr (5, [.ref ae, .ref al, .ref ap, .ref az, .ref ar, .int (zI np), .ref am, .int (zI th)]))]) (wr := []) (va_runV (As := [.int (zI i), .int (zI r), .int (zI w), .int (zI 0)]) (rest := []) CF (c_X6_transforms_1af l D cI h0 ae al ap az ar am np th i r w (by omega) (by omega) (by omega) (by omega) (by omega) H.size) (cwV 4 hts gX6_forward_X6_transforms rfl rfl rfl (by decide +kernel) ⟨Nat.le_of_ble_eq_true rfl, Nat.le_of_ble_eq_true rfl⟩) (z_preV (va_recv hK hP (ci := 5) (q0 := 0) rfl rfl) hPc hDc hRc (z_dis (ws := [(h0, .inr (5, [.ref ae, .ref al, .ref ap, .ref az, .ref ar, .int (zI np), .ref am, .int (zI th)]))]) (rs := []) (wc := [(h0, .inr (5, [.ref ae, .ref al, .ref ap, .ref az, .ref ar, .int (zI np), .ref am, .int (zI th)]))]) (rc := []) hD hR0 (isC := [0]) (isR := []) rfl rfl (by decide)) (hK.sub (tys' := [(cI, .int)]) [0] rfl)) rfl rfl hl.1 rfl (lv_room (Nat.le_of_ble_eq_true rfl)) dX6_forward_5 ⟨Nat.le_of_ble_eq_true rfl, Nat.le_of_ble_eq_true rfl⟩) hP hD hS hA [0] [] rfl rfl (by decide) (by decide) (cells' := 0) (slots' := 0) rfl rfl (fun u_5 H locs hp_5 hP hD hS => ?_)
  have hp_5 : True := hp_5
  have hP := hP.sub (ws' := [(h0, .inr (5, [.ref ae, .ref al, .ref ap, .ref az, .ref ar, .int (zI np), .ref am, .int (zI 1)]))]) [0] rfl
  have hD := hD.sub (ws' := [(h0, .inr (5, [.ref ae, .ref al, .ref ap, .ref az, .ref ar, .int (zI np), .ref am, .int (zI 1)]))]) [0] (by decide) rfl
  exact z_iret hx hb hr hlocks rfl () (rfl) (trivial) hP hD hS dX6_forward_8

set_option maxHeartbeats 4000000 in
set_option maxRecDepth 100000 in
theorem c_X6_forward_1b (l : Launch) (D : va_G) (cI : ClassId) (h0 : Nat) (ae : Nat) (al : Nat) (ap : Nat) (az : Nat) (ar : Nat) (am : Nat) (np : Int) (th : Int) (i : Int) (r : Int) (w : Int) (ha_i : -2147483648 ≤ i ∧ i ≤ 2147483647) (ha_r : -2147483648 ≤ r ∧ r ≤ 2147483647) (ha_w : -2147483648 ≤ w ∧ w ≤ 2147483647) (hnp_ : 0 ≤ np ∧ np ≤ 8) (hi0 : 0 ≤ i ∧ i < np) (hb_r : ¬ (0 ≤ r ∧ r < 4)) : zC l yX6_forward wsX6_forward ({ frames := 2, cells := 0, slots := 0, locals := 50 } : Room) D [(cI, .int)] [(h0, .inr (5, [.ref ae, .ref al, .ref ap, .ref az, .ref ar, .int (zI np), .ref am, .int (zI th)]))] [] [.ref h0, .int (zI i), .int (zI r), .int (zI w)] (S := Unit) (fun u => True) (fun u => some (.int (zI 0))) (fun u => [(h0, .inr (5, [.ref ae, .ref al, .ref ap, .ref az, .ref ar, .int (zI np), .ref am, .int (zI 1)]))]) := by
  refine z_start (cc := cX6_forward) (maxL := 4) (ret := (some .int)) (own := RX6) (by decide) rfl rfl (Nat.le_of_ble_eq_true rfl) [(0, .ref h0), (1, .int (zI i)), (2, .int (zI r)), (3, .int (zI w))] rfl ?_
  intro pp ee s mm below meth cc A H ls hx hb hr hml hts hown hlocks hin hK hA hP hD hS hR0 hR hl
  have CF : CallFix pp mm cc cX6_forward 4 s ([.ref h0, .int (zI i), .int (zI r), .int (zI w)] : List Value).toArray wsX6_forward RX6 := ⟨hx, hb, hml, hown, hts⟩
  refine lv_aload_n hx hb dX6_forward_0 rfl (lv_at hl 0 rfl) ?_
  refine lv_iload_n hx hb dX6_forward_1 rfl (lv_at hl 1 rfl) ?_
  refine lv_iload_n hx hb dX6_forward_2 rfl (lv_at hl 2 rfl) ?_
  refine lv_iload_n hx hb dX6_forward_3 rfl (lv_at hl 3 rfl) ?_
  refine z_iconst hx hb dX6_forward_4 ?_
  have hRc : va_P D vwCl [] H := z_nilP
  have hPc := hP.sub (ws' := [(h0, .inr (5, [.ref ae, .ref al, .ref ap, .ref az, .ref ar, .int (zI np), .ref am, .int (zI th)]))]) [0] rfl
  have hDc := hD.sub (ws' := [(h0, .inr (5, [.ref ae, .ref al, .ref ap, .ref az, .ref ar, .int (zI np), .ref am, .int (zI th)]))]) [0] (by decide) rfl
  refine z_mu (ws := [(h0, .inr (5, [.ref ae, .ref al, .ref ap, .ref az, .ref ar, .int (zI np), .ref am, .int (zI th)]))]) (wc := [(h0, .inr (5, [.ref ae, .ref al, .ref ap, .ref az, .ref ar, .int (zI np), .ref am, .int (zI th)]))]) (wr := []) (va_runV (As := [.int (zI i), .int (zI r), .int (zI w), .int (zI 0)]) (rest := []) CF (c_X6_transforms_1bf l D cI h0 ae al ap az ar am np th i r w (by omega) (by omega) (by omega) (by omega) (by omega) (by omega) H.size) (cwV 4 hts gX6_forward_X6_transforms rfl rfl rfl (by decide +kernel) ⟨Nat.le_of_ble_eq_true rfl, Nat.le_of_ble_eq_true rfl⟩) (z_preV (va_recv hK hP (ci := 5) (q0 := 0) rfl rfl) hPc hDc hRc (z_dis (ws := [(h0, .inr (5, [.ref ae, .ref al, .ref ap, .ref az, .ref ar, .int (zI np), .ref am, .int (zI th)]))]) (rs := []) (wc := [(h0, .inr (5, [.ref ae, .ref al, .ref ap, .ref az, .ref ar, .int (zI np), .ref am, .int (zI th)]))]) (rc := []) hD hR0 (isC := [0]) (isR := []) rfl rfl (by decide)) (hK.sub (tys' := [(cI, .int)]) [0] rfl)) rfl rfl hl.1 rfl (lv_room (Nat.le_of_ble_eq_true rfl)) dX6_forward_5 ⟨Nat.le_of_ble_eq_true rfl, Nat.le_of_ble_eq_true rfl⟩) hP hD hS hA [0] [] rfl rfl (by decide) (by decide) (cells' := 0) (slots' := 0) rfl rfl (fun u_5 H locs hp_5 hP hD hS => ?_)
  have hp_5 : True := hp_5
  have hP := hP.sub (ws' := [(h0, .inr (5, [.ref ae, .ref al, .ref ap, .ref az, .ref ar, .int (zI np), .ref am, .int (zI 1)]))]) [0] rfl
  have hD := hD.sub (ws' := [(h0, .inr (5, [.ref ae, .ref al, .ref ap, .ref az, .ref ar, .int (zI np), .ref am, .int (zI 1)]))]) [0] (by decide) rfl
  exact z_iret hx hb hr hlocks rfl () (rfl) (trivial) hP hD hS dX6_forward_8

set_option maxHeartbeats 4000000 in
set_option maxRecDepth 100000 in
theorem c_X6_forward_2a (l : Launch) (D : va_G) (cI : ClassId) (h0 : Nat) (ae : Nat) (al : Nat) (ap : Nat) (az : Nat) (ar : Nat) (am : Nat) (np : Int) (th : Int) (i : Int) (r : Int) (w : Int) (ha_i : -2147483648 ≤ i ∧ i ≤ 2147483647) (ha_r : -2147483648 ≤ r ∧ r ≤ 2147483647) (ha_w : -2147483648 ≤ w ∧ w ≤ 2147483647) (hnp_ : 0 ≤ np ∧ np ≤ 8) (hi0 : 0 ≤ i ∧ i < np) (hr_r : 0 ≤ r ∧ r < 4) (hw_ : w < 0) : zC l yX6_forward wsX6_forward ({ frames := 2, cells := 0, slots := 0, locals := 50 } : Room) D [(cI, .int)] [(h0, .inr (5, [.ref ae, .ref al, .ref ap, .ref az, .ref ar, .int (zI np), .ref am, .int (zI th)]))] [] [.ref h0, .int (zI i), .int (zI r), .int (zI w)] (S := Unit) (fun u => True) (fun u => some (.int (zI 0))) (fun u => [(h0, .inr (5, [.ref ae, .ref al, .ref ap, .ref az, .ref ar, .int (zI np), .ref am, .int (zI 2)]))]) := by
  refine z_start (cc := cX6_forward) (maxL := 4) (ret := (some .int)) (own := RX6) (by decide) rfl rfl (Nat.le_of_ble_eq_true rfl) [(0, .ref h0), (1, .int (zI i)), (2, .int (zI r)), (3, .int (zI w))] rfl ?_
  intro pp ee s mm below meth cc A H ls hx hb hr hml hts hown hlocks hin hK hA hP hD hS hR0 hR hl
  have CF : CallFix pp mm cc cX6_forward 4 s ([.ref h0, .int (zI i), .int (zI r), .int (zI w)] : List Value).toArray wsX6_forward RX6 := ⟨hx, hb, hml, hown, hts⟩
  refine lv_aload_n hx hb dX6_forward_0 rfl (lv_at hl 0 rfl) ?_
  refine lv_iload_n hx hb dX6_forward_1 rfl (lv_at hl 1 rfl) ?_
  refine lv_iload_n hx hb dX6_forward_2 rfl (lv_at hl 2 rfl) ?_
  refine lv_iload_n hx hb dX6_forward_3 rfl (lv_at hl 3 rfl) ?_
  refine z_iconst hx hb dX6_forward_4 ?_
  have hRc : va_P D vwCl [] H := z_nilP
  have hPc := hP.sub (ws' := [(h0, .inr (5, [.ref ae, .ref al, .ref ap, .ref az, .ref ar, .int (zI np), .ref am, .int (zI th)]))]) [0] rfl
  have hDc := hD.sub (ws' := [(h0, .inr (5, [.ref ae, .ref al, .ref ap, .ref az, .ref ar, .int (zI np), .ref am, .int (zI th)]))]) [0] (by decide) rfl
  refine z_mu (ws := [(h0, .inr (5, [.ref ae, .ref al, .ref ap, .ref az, .ref ar, .int (zI np), .ref am, .int (zI th)]))]) (wc := [(h0, .inr (5, [.ref ae, .ref al, .ref ap, .ref az, .ref ar, .int (zI np), .ref am, .int (zI th)]))]) (wr := []) (va_runV (As := [.int (zI i), .int (zI r), .int (zI w), .int (zI 0)]) (rest := []) CF (c_X6_transforms_2af l D cI h0 ae al ap az ar am np th i r w (by omega) (by omega) (by omega) (by omega) (by omega) (by omega) (by omega) H.size) (cwV 4 hts gX6_forward_X6_transforms rfl rfl rfl (by decide +kernel) ⟨Nat.le_of_ble_eq_true rfl, Nat.le_of_ble_eq_true rfl⟩) (z_preV (va_recv hK hP (ci := 5) (q0 := 0) rfl rfl) hPc hDc hRc (z_dis (ws := [(h0, .inr (5, [.ref ae, .ref al, .ref ap, .ref az, .ref ar, .int (zI np), .ref am, .int (zI th)]))]) (rs := []) (wc := [(h0, .inr (5, [.ref ae, .ref al, .ref ap, .ref az, .ref ar, .int (zI np), .ref am, .int (zI th)]))]) (rc := []) hD hR0 (isC := [0]) (isR := []) rfl rfl (by decide)) (hK.sub (tys' := [(cI, .int)]) [0] rfl)) rfl rfl hl.1 rfl (lv_room (Nat.le_of_ble_eq_true rfl)) dX6_forward_5 ⟨Nat.le_of_ble_eq_true rfl, Nat.le_of_ble_eq_true rfl⟩) hP hD hS hA [0] [] rfl rfl (by decide) (by decide) (cells' := 0) (slots' := 0) rfl rfl (fun u_5 H locs hp_5 hP hD hS => ?_)
  have hp_5 : True := hp_5
  have hP := hP.sub (ws' := [(h0, .inr (5, [.ref ae, .ref al, .ref ap, .ref az, .ref ar, .int (zI np), .ref am, .int (zI 2)]))]) [0] rfl
  have hD := hD.sub (ws' := [(h0, .inr (5, [.ref ae, .ref al, .ref ap, .ref az, .ref ar, .int (zI np), .ref am, .int (zI 2)]))]) [0] (by decide) rfl
  exact z_iret hx hb hr hlocks rfl () (rfl) (trivial) hP hD hS dX6_forward_8

set_option maxHeartbeats 4000000 in
set_option maxRecDepth 100000 in
theorem c_X6_forward_2b (l : Launch) (D : va_G) (cI : ClassId) (h0 : Nat) (ae : Nat) (al : Nat) (ap : Nat) (az : Nat) (ar : Nat) (am : Nat) (np : Int) (th : Int) (i : Int) (r : Int) (w : Int) (ha_i : -2147483648 ≤ i ∧ i ≤ 2147483647) (ha_r : -2147483648 ≤ r ∧ r ≤ 2147483647) (ha_w : -2147483648 ≤ w ∧ w ≤ 2147483647) (hnp_ : 0 ≤ np ∧ np ≤ 8) (hi0 : 0 ≤ i ∧ i < np) (hr_r : 0 ≤ r ∧ r < 4) (hw_ : 4 < w) : zC l yX6_forward wsX6_forward ({ frames := 2, cells := 0, slots := 0, locals := 50 } : Room) D [(cI, .int)] [(h0, .inr (5, [.ref ae, .ref al, .ref ap, .ref az, .ref ar, .int (zI np), .ref am, .int (zI th)]))] [] [.ref h0, .int (zI i), .int (zI r), .int (zI w)] (S := Unit) (fun u => True) (fun u => some (.int (zI 0))) (fun u => [(h0, .inr (5, [.ref ae, .ref al, .ref ap, .ref az, .ref ar, .int (zI np), .ref am, .int (zI 2)]))]) := by
  refine z_start (cc := cX6_forward) (maxL := 4) (ret := (some .int)) (own := RX6) (by decide) rfl rfl (Nat.le_of_ble_eq_true rfl) [(0, .ref h0), (1, .int (zI i)), (2, .int (zI r)), (3, .int (zI w))] rfl ?_
  intro pp ee s mm below meth cc A H ls hx hb hr hml hts hown hlocks hin hK hA hP hD hS hR0 hR hl
  have CF : CallFix pp mm cc cX6_forward 4 s ([.ref h0, .int (zI i), .int (zI r), .int (zI w)] : List Value).toArray wsX6_forward RX6 := ⟨hx, hb, hml, hown, hts⟩
  refine lv_aload_n hx hb dX6_forward_0 rfl (lv_at hl 0 rfl) ?_
  refine lv_iload_n hx hb dX6_forward_1 rfl (lv_at hl 1 rfl) ?_
  refine lv_iload_n hx hb dX6_forward_2 rfl (lv_at hl 2 rfl) ?_
  refine lv_iload_n hx hb dX6_forward_3 rfl (lv_at hl 3 rfl) ?_
  refine z_iconst hx hb dX6_forward_4 ?_
  have hRc : va_P D vwCl [] H := z_nilP
  have hPc := hP.sub (ws' := [(h0, .inr (5, [.ref ae, .ref al, .ref ap, .ref az, .ref ar, .int (zI np), .ref am, .int (zI th)]))]) [0] rfl
  have hDc := hD.sub (ws' := [(h0, .inr (5, [.ref ae, .ref al, .ref ap, .ref az, .ref ar, .int (zI np), .ref am, .int (zI th)]))]) [0] (by decide) rfl
  refine z_mu (ws := [(h0, .inr (5, [.ref ae, .ref al, .ref ap, .ref az, .ref ar, .int (zI np), .ref am, .int (zI th)]))]) (wc := [(h0, .inr (5, [.ref ae, .ref al, .ref ap, .ref az, .ref ar, .int (zI np), .ref am, .int (zI th)]))]) (wr := []) (va_runV (As := [.int (zI i), .int (zI r), .int (zI w), .int (zI 0)]) (rest := []) CF (c_X6_transforms_2bf l D cI h0 ae al ap az ar am np th i r w (by omega) (by omega) (by omega) (by omega) (by omega) (by omega) (by omega) H.size) (cwV 4 hts gX6_forward_X6_transforms rfl rfl rfl (by decide +kernel) ⟨Nat.le_of_ble_eq_true rfl, Nat.le_of_ble_eq_true rfl⟩) (z_preV (va_recv hK hP (ci := 5) (q0 := 0) rfl rfl) hPc hDc hRc (z_dis (ws := [(h0, .inr (5, [.ref ae, .ref al, .ref ap, .ref az, .ref ar, .int (zI np), .ref am, .int (zI th)]))]) (rs := []) (wc := [(h0, .inr (5, [.ref ae, .ref al, .ref ap, .ref az, .ref ar, .int (zI np), .ref am, .int (zI th)]))]) (rc := []) hD hR0 (isC := [0]) (isR := []) rfl rfl (by decide)) (hK.sub (tys' := [(cI, .int)]) [0] rfl)) rfl rfl hl.1 rfl (lv_room (Nat.le_of_ble_eq_true rfl)) dX6_forward_5 ⟨Nat.le_of_ble_eq_true rfl, Nat.le_of_ble_eq_true rfl⟩) hP hD hS hA [0] [] rfl rfl (by decide) (by decide) (cells' := 0) (slots' := 0) rfl rfl (fun u_5 H locs hp_5 hP hD hS => ?_)
  have hp_5 : True := hp_5
  have hP := hP.sub (ws' := [(h0, .inr (5, [.ref ae, .ref al, .ref ap, .ref az, .ref ar, .int (zI np), .ref am, .int (zI 2)]))]) [0] rfl
  have hD := hD.sub (ws' := [(h0, .inr (5, [.ref ae, .ref al, .ref ap, .ref az, .ref ar, .int (zI np), .ref am, .int (zI 2)]))]) [0] (by decide) rfl
  exact z_iret hx hb hr hlocks rfl () (rfl) (trivial) hP hD hS dX6_forward_8

set_option maxHeartbeats 4000000 in
set_option maxRecDepth 100000 in
theorem c_X6_forward_2c (l : Launch) (D : va_G) (cI : ClassId) (h0 : Nat) (ae : Nat) (al : Nat) (ap : Nat) (az : Nat) (ar : Nat) (am : Nat) (np : Int) (th : Int) (xz : Int → Int) (i : Int) (r : Int) (w : Int) (ha_i : -2147483648 ≤ i ∧ i ≤ 2147483647) (ha_r : -2147483648 ≤ r ∧ r ≤ 2147483647) (ha_w : -2147483648 ≤ w ∧ w ≤ 2147483647) (hnp_ : 0 ≤ np ∧ np ≤ 8) (hi0 : 0 ≤ i ∧ i < np) (hz_ : 1 ≤ xz i ∧ xz i ≤ 64) (hr_r : 0 ≤ r ∧ r < 4) (hw_ : 0 ≤ w ∧ w ≤ 4) (hw2 : wset (xz i) / 2 ^ w.toNat % 2 ≠ 1) : zC l yX6_forward wsX6_forward ({ frames := 3, cells := 0, slots := 0, locals := 75 } : Room) D [(cI, .int)] [(h0, .inr (5, [.ref ae, .ref al, .ref ap, .ref az, .ref ar, .int (zI np), .ref am, .int (zI th)]))] [(az, .inl (cI, 8, .inl (zA xz)))] [.ref h0, .int (zI i), .int (zI r), .int (zI w)] (S := Unit) (fun u => True) (fun u => some (.int (zI 0))) (fun u => [(h0, .inr (5, [.ref ae, .ref al, .ref ap, .ref az, .ref ar, .int (zI np), .ref am, .int (zI 2)]))]) := by
  refine z_start (cc := cX6_forward) (maxL := 4) (ret := (some .int)) (own := RX6) (by decide) rfl rfl (Nat.le_of_ble_eq_true rfl) [(0, .ref h0), (1, .int (zI i)), (2, .int (zI r)), (3, .int (zI w))] rfl ?_
  intro pp ee s mm below meth cc A H ls hx hb hr hml hts hown hlocks hin hK hA hP hD hS hR0 hR hl
  have CF : CallFix pp mm cc cX6_forward 4 s ([.ref h0, .int (zI i), .int (zI r), .int (zI w)] : List Value).toArray wsX6_forward RX6 := ⟨hx, hb, hml, hown, hts⟩
  refine lv_aload_n hx hb dX6_forward_0 rfl (lv_at hl 0 rfl) ?_
  refine lv_iload_n hx hb dX6_forward_1 rfl (lv_at hl 1 rfl) ?_
  refine lv_iload_n hx hb dX6_forward_2 rfl (lv_at hl 2 rfl) ?_
  refine lv_iload_n hx hb dX6_forward_3 rfl (lv_at hl 3 rfl) ?_
  refine z_iconst hx hb dX6_forward_4 ?_
  have hRc := z_subR (ws := [(h0, .inr (5, [.ref ae, .ref al, .ref ap, .ref az, .ref ar, .int (zI np), .ref am, .int (zI th)]))]) (rs := [(az, .inl (cI, 8, .inl (zA xz)))]) (rc := [(az, .inl (cI, 8, .inl (zA xz)))]) hP hR (isR := [1]) rfl
  have hPc := hP.sub (ws' := [(h0, .inr (5, [.ref ae, .ref al, .ref ap, .ref az, .ref ar, .int (zI np), .ref am, .int (zI th)]))]) [0] rfl
  have hDc := hD.sub (ws' := [(h0, .inr (5, [.ref ae, .ref al, .ref ap, .ref az, .ref ar, .int (zI np), .ref am, .int (zI th)]))]) [0] (by decide) rfl
  refine z_mu (ws := [(h0, .inr (5, [.ref ae, .ref al, .ref ap, .ref az, .ref ar, .int (zI np), .ref am, .int (zI th)]))]) (wc := [(h0, .inr (5, [.ref ae, .ref al, .ref ap, .ref az, .ref ar, .int (zI np), .ref am, .int (zI th)]))]) (wr := []) (va_runV (As := [.int (zI i), .int (zI r), .int (zI w), .int (zI 0)]) (rest := []) CF (c_X6_transforms_2cf l D cI h0 ae al ap az ar am np th xz i r w (by omega) (by omega) (by omega) (by omega) (by omega) (by omega) (by omega) (by omega) (by exact hw2) H.size) (cwV 4 hts gX6_forward_X6_transforms rfl rfl rfl (by decide +kernel) ⟨Nat.le_of_ble_eq_true rfl, Nat.le_of_ble_eq_true rfl⟩) (z_preV (va_recv hK hP (ci := 5) (q0 := 0) rfl rfl) hPc hDc hRc (z_dis (ws := [(h0, .inr (5, [.ref ae, .ref al, .ref ap, .ref az, .ref ar, .int (zI np), .ref am, .int (zI th)]))]) (rs := [(az, .inl (cI, 8, .inl (zA xz)))]) (wc := [(h0, .inr (5, [.ref ae, .ref al, .ref ap, .ref az, .ref ar, .int (zI np), .ref am, .int (zI th)]))]) (rc := [(az, .inl (cI, 8, .inl (zA xz)))]) hD hR0 (isC := [0]) (isR := [1]) rfl rfl (by decide)) (hK.sub (tys' := [(cI, .int)]) [0] rfl)) rfl rfl hl.1 rfl (lv_room (Nat.le_of_ble_eq_true rfl)) dX6_forward_5 ⟨Nat.le_of_ble_eq_true rfl, Nat.le_of_ble_eq_true rfl⟩) hP hD hS hA [0] [] rfl rfl (by decide) (by decide) (cells' := 0) (slots' := 0) rfl rfl (fun u_5 H locs hp_5 hP hD hS => ?_)
  have hp_5 : True := hp_5
  have hP := hP.sub (ws' := [(h0, .inr (5, [.ref ae, .ref al, .ref ap, .ref az, .ref ar, .int (zI np), .ref am, .int (zI 2)]))]) [0] rfl
  have hD := hD.sub (ws' := [(h0, .inr (5, [.ref ae, .ref al, .ref ap, .ref az, .ref ar, .int (zI np), .ref am, .int (zI 2)]))]) [0] (by decide) rfl
  have hR := hR0.at hS
  exact z_iret hx hb hr hlocks rfl () (rfl) (trivial) hP hD hS dX6_forward_8

set_option maxHeartbeats 4000000 in
set_option maxRecDepth 100000 in
theorem c_X6_forward_3 (l : Launch) (D : va_G) (cI : ClassId) (h0 : Nat) (ae : Nat) (al : Nat) (ap : Nat) (az : Nat) (ar : Nat) (am : Nat) (np : Int) (th : Int) (xl : Int → Int) (xz : Int → Int) (i : Int) (r : Int) (w : Int) (ha_i : -2147483648 ≤ i ∧ i ≤ 2147483647) (ha_r : -2147483648 ≤ r ∧ r ≤ 2147483647) (ha_w : -2147483648 ≤ w ∧ w ≤ 2147483647) (hnp_ : 0 ≤ np ∧ np ≤ 8) (hi0 : 0 ≤ i ∧ i < np) (hz_ : 1 ≤ xz i ∧ xz i ≤ 64) (hr_r : 0 ≤ r ∧ r < 4) (hxl_r : 0 ≤ xl r ∧ xl r ≤ 64) (hw_ : 0 ≤ w ∧ w ≤ 4) (hw2 : wset (xz i) / 2 ^ w.toNat % 2 = 1) (hlz : xz i < xl r) : zC l yX6_forward wsX6_forward ({ frames := 3, cells := 0, slots := 0, locals := 75 } : Room) D [(cI, .int)] [(h0, .inr (5, [.ref ae, .ref al, .ref ap, .ref az, .ref ar, .int (zI np), .ref am, .int (zI th)]))] [(al, .inl (cI, 4, .inl (zA xl))), (az, .inl (cI, 8, .inl (zA xz)))] [.ref h0, .int (zI i), .int (zI r), .int (zI w)] (S := Unit) (fun u => True) (fun u => some (.int (zI 0))) (fun u => [(h0, .inr (5, [.ref ae, .ref al, .ref ap, .ref az, .ref ar, .int (zI np), .ref am, .int (zI 3)]))]) := by
  refine z_start (cc := cX6_forward) (maxL := 4) (ret := (some .int)) (own := RX6) (by decide) rfl rfl (Nat.le_of_ble_eq_true rfl) [(0, .ref h0), (1, .int (zI i)), (2, .int (zI r)), (3, .int (zI w))] rfl ?_
  intro pp ee s mm below meth cc A H ls hx hb hr hml hts hown hlocks hin hK hA hP hD hS hR0 hR hl
  have CF : CallFix pp mm cc cX6_forward 4 s ([.ref h0, .int (zI i), .int (zI r), .int (zI w)] : List Value).toArray wsX6_forward RX6 := ⟨hx, hb, hml, hown, hts⟩
  refine lv_aload_n hx hb dX6_forward_0 rfl (lv_at hl 0 rfl) ?_
  refine lv_iload_n hx hb dX6_forward_1 rfl (lv_at hl 1 rfl) ?_
  refine lv_iload_n hx hb dX6_forward_2 rfl (lv_at hl 2 rfl) ?_
  refine lv_iload_n hx hb dX6_forward_3 rfl (lv_at hl 3 rfl) ?_
  refine z_iconst hx hb dX6_forward_4 ?_
  have hRc := z_subR (ws := [(h0, .inr (5, [.ref ae, .ref al, .ref ap, .ref az, .ref ar, .int (zI np), .ref am, .int (zI th)]))]) (rs := [(al, .inl (cI, 4, .inl (zA xl))), (az, .inl (cI, 8, .inl (zA xz)))]) (rc := [(al, .inl (cI, 4, .inl (zA xl))), (az, .inl (cI, 8, .inl (zA xz)))]) hP hR (isR := [1, 2]) rfl
  have hPc := hP.sub (ws' := [(h0, .inr (5, [.ref ae, .ref al, .ref ap, .ref az, .ref ar, .int (zI np), .ref am, .int (zI th)]))]) [0] rfl
  have hDc := hD.sub (ws' := [(h0, .inr (5, [.ref ae, .ref al, .ref ap, .ref az, .ref ar, .int (zI np), .ref am, .int (zI th)]))]) [0] (by decide) rfl
  refine z_mu (ws := [(h0, .inr (5, [.ref ae, .ref al, .ref ap, .ref az, .ref ar, .int (zI np), .ref am, .int (zI th)]))]) (wc := [(h0, .inr (5, [.ref ae, .ref al, .ref ap, .ref az, .ref ar, .int (zI np), .ref am, .int (zI th)]))]) (wr := []) (va_runV (As := [.int (zI i), .int (zI r), .int (zI w), .int (zI 0)]) (rest := []) CF (c_X6_transforms_3f l D cI h0 ae al ap az ar am np th xl xz i r w (by omega) (by omega) (by omega) (by omega) (by omega) (by omega) (by omega) (by omega) (by omega) (by exact hw2) (by omega) H.size) (cwV 4 hts gX6_forward_X6_transforms rfl rfl rfl (by decide +kernel) ⟨Nat.le_of_ble_eq_true rfl, Nat.le_of_ble_eq_true rfl⟩) (z_preV (va_recv hK hP (ci := 5) (q0 := 0) rfl rfl) hPc hDc hRc (z_dis (ws := [(h0, .inr (5, [.ref ae, .ref al, .ref ap, .ref az, .ref ar, .int (zI np), .ref am, .int (zI th)]))]) (rs := [(al, .inl (cI, 4, .inl (zA xl))), (az, .inl (cI, 8, .inl (zA xz)))]) (wc := [(h0, .inr (5, [.ref ae, .ref al, .ref ap, .ref az, .ref ar, .int (zI np), .ref am, .int (zI th)]))]) (rc := [(al, .inl (cI, 4, .inl (zA xl))), (az, .inl (cI, 8, .inl (zA xz)))]) hD hR0 (isC := [0]) (isR := [1, 2]) rfl rfl (by decide)) (hK.sub (tys' := [(cI, .int)]) [0] rfl)) rfl rfl hl.1 rfl (lv_room (Nat.le_of_ble_eq_true rfl)) dX6_forward_5 ⟨Nat.le_of_ble_eq_true rfl, Nat.le_of_ble_eq_true rfl⟩) hP hD hS hA [0] [] rfl rfl (by decide) (by decide) (cells' := 0) (slots' := 0) rfl rfl (fun u_5 H locs hp_5 hP hD hS => ?_)
  have hp_5 : True := hp_5
  have hP := hP.sub (ws' := [(h0, .inr (5, [.ref ae, .ref al, .ref ap, .ref az, .ref ar, .int (zI np), .ref am, .int (zI 3)]))]) [0] rfl
  have hD := hD.sub (ws' := [(h0, .inr (5, [.ref ae, .ref al, .ref ap, .ref az, .ref ar, .int (zI np), .ref am, .int (zI 3)]))]) [0] (by decide) rfl
  have hR := hR0.at hS
  exact z_iret hx hb hr hlocks rfl () (rfl) (trivial) hP hD hS dX6_forward_8

set_option maxHeartbeats 4000000 in
set_option maxRecDepth 100000 in
theorem c_X6_forward_ok (l : Launch) (D : va_G) (cI : ClassId) (h0 : Nat) (ae : Nat) (al : Nat) (ap : Nat) (az : Nat) (ar : Nat) (am : Nat) (np : Int) (th : Int) (xe : Int → Int) (xl : Int → Int) (xm : Int → Int) (xp : Int → Int) (xz : Int → Int) (xr : Int → Int) (i : Int) (r : Int) (w : Int) (ha_i : -2147483648 ≤ i ∧ i ≤ 2147483647) (ha_r : -2147483648 ≤ r ∧ r ≤ 2147483647) (ha_w : -2147483648 ≤ w ∧ w ≤ 2147483647) (hnp_ : 0 ≤ np ∧ np ≤ 8) (hi0 : 0 ≤ i ∧ i < np) (hz_ : 1 ≤ xz i ∧ xz i ≤ 64) (hp_ : 2 ≤ xp i ∧ xp i ≤ 10000) (hrt : 0 ≤ xr i ∧ xr i ≤ 10000) (hr_r : 0 ≤ r ∧ r < 4) (hxl_r : 0 ≤ xl r ∧ xl r ≤ 64) (hxe : ∀ k, 0 ≤ k → k < 256 → -1000000 ≤ xe k ∧ xe k ≤ 1000000) (hw_ : 0 ≤ w ∧ w ≤ 4) (hw2 : wset (xz i) / 2 ^ w.toNat % 2 = 1) (hlz : xl r ≤ xz i) : zC l yX6_forward wsX6_forward ({ frames := 4, cells := 0, slots := 0, locals := 103 } : Room) D [(cI, .int)] [(h0, .inr (5, [.ref ae, .ref al, .ref ap, .ref az, .ref ar, .int (zI np), .ref am, .int (zI th)])), (ae, .inl (cI, 256, .inl (zA xe))), (al, .inl (cI, 4, .inl (zA xl))), (am, .inl (cI, 64, .inl (zA xm)))] [(ap, .inl (cI, 8, .inl (zA xp))), (az, .inl (cI, 8, .inl (zA xz))), (ar, .inl (cI, 8, .inl (zA xr)))] [.ref h0, .int (zI i), .int (zI r), .int (zI w)] (S := (Int → Int) × (Int → Int)) (fun (xe2, xm2) => (∀ k, 0 ≤ k → k < xz i → xe2 (64 * r + k) = sumR (xp i) (xz i) (xr i) (fun j => rowAt (eRow xe r) (xl r) j % xp i) k * 1 % xp i) ∧ (∀ x, x < 64 * r ∨ 64 * r + xz i ≤ x → xe2 x = xe x)) (fun (xe2, xm2) => some (.int (zI (sumR (xp i) (xz i) (xr i) (fun j => rowAt (eRow xe r) (xl r) j % xp i) 0 * 1 % xp i)))) (fun (xe2, xm2) => [(h0, .inr (5, [.ref ae, .ref al, .ref ap, .ref az, .ref ar, .int (zI np), .ref am, .int (zI 0)])), (ae, .inl (cI, 256, .inl (zA xe2))), (al, .inl (cI, 4, .inl (zA (zU xl r (xz i))))), (am, .inl (cI, 64, .inl (zA xm2)))]) := by
  refine z_start (cc := cX6_forward) (maxL := 4) (ret := (some .int)) (own := RX6) (by decide) rfl rfl (Nat.le_of_ble_eq_true rfl) [(0, .ref h0), (1, .int (zI i)), (2, .int (zI r)), (3, .int (zI w))] rfl ?_
  intro pp ee s mm below meth cc A H ls hx hb hr hml hts hown hlocks hin hK hA hP hD hS hR0 hR hl
  have CF : CallFix pp mm cc cX6_forward 4 s ([.ref h0, .int (zI i), .int (zI r), .int (zI w)] : List Value).toArray wsX6_forward RX6 := ⟨hx, hb, hml, hown, hts⟩
  refine lv_aload_n hx hb dX6_forward_0 rfl (lv_at hl 0 rfl) ?_
  refine lv_iload_n hx hb dX6_forward_1 rfl (lv_at hl 1 rfl) ?_
  refine lv_iload_n hx hb dX6_forward_2 rfl (lv_at hl 2 rfl) ?_
  refine lv_iload_n hx hb dX6_forward_3 rfl (lv_at hl 3 rfl) ?_
  refine z_iconst hx hb dX6_forward_4 ?_
  have hRc := z_subR (ws := [(h0, .inr (5, [.ref ae, .ref al, .ref ap, .ref az, .ref ar, .int (zI np), .ref am, .int (zI th)])), (ae, .inl (cI, 256, .inl (zA xe))), (al, .inl (cI, 4, .inl (zA xl))), (am, .inl (cI, 64, .inl (zA xm)))]) (rs := [(ap, .inl (cI, 8, .inl (zA xp))), (az, .inl (cI, 8, .inl (zA xz))), (ar, .inl (cI, 8, .inl (zA xr)))]) (rc := [(ap, .inl (cI, 8, .inl (zA xp))), (az, .inl (cI, 8, .inl (zA xz))), (ar, .inl (cI, 8, .inl (zA xr)))]) hP hR (isR := [4, 5, 6]) rfl
  have hPc := hP.sub (ws' := [(h0, .inr (5, [.ref ae, .ref al, .ref ap, .ref az, .ref ar, .int (zI np), .ref am, .int (zI th)])), (ae, .inl (cI, 256, .inl (zA xe))), (al, .inl (cI, 4, .inl (zA xl))), (am, .inl (cI, 64, .inl (zA xm)))]) [0, 1, 2, 3] rfl
  have hDc := hD.sub (ws' := [(h0, .inr (5, [.ref ae, .ref al, .ref ap, .ref az, .ref ar, .int (zI np), .ref am, .int (zI th)])), (ae, .inl (cI, 256, .inl (zA xe))), (al, .inl (cI, 4, .inl (zA xl))), (am, .inl (cI, 64, .inl (zA xm)))]) [0, 1, 2, 3] (by decide) rfl
  refine z_mu (ws := [(h0, .inr (5, [.ref ae, .ref al, .ref ap, .ref az, .ref ar, .int (zI np), .ref am, .int (zI th)])), (ae, .inl (cI, 256, .inl (zA xe))), (al, .inl (cI, 4, .inl (zA xl))), (am, .inl (cI, 64, .inl (zA xm)))]) (wc := [(h0, .inr (5, [.ref ae, .ref al, .ref ap, .ref az, .ref ar, .int (zI np), .ref am, .int (zI th)])), (ae, .inl (cI, 256, .inl (zA xe))), (al, .inl (cI, 4, .inl (zA xl))), (am, .inl (cI, 64, .inl (zA xm)))]) (wr := []) (va_runV (As := [.int (zI i), .int (zI r), .int (zI w), .int (zI 0)]) (rest := []) CF (c_X6_transforms_okf l D cI h0 ae al ap az ar am np th xe xl xm xp xz xr i r w (by omega) (by omega) (by omega) (by omega) (by omega) (by omega) (by omega) (by omega) (by omega) (by omega) (by exact hxe) (by omega) (by exact hw2) (by omega) H.size) (cwV 4 hts gX6_forward_X6_transforms rfl rfl rfl (by decide +kernel) ⟨Nat.le_of_ble_eq_true rfl, Nat.le_of_ble_eq_true rfl⟩) (z_preV (va_recv hK hP (ci := 5) (q0 := 0) rfl rfl) hPc hDc hRc (z_dis (ws := [(h0, .inr (5, [.ref ae, .ref al, .ref ap, .ref az, .ref ar, .int (zI np), .ref am, .int (zI th)])), (ae, .inl (cI, 256, .inl (zA xe))), (al, .inl (cI, 4, .inl (zA xl))), (am, .inl (cI, 64, .inl (zA xm)))]) (rs := [(ap, .inl (cI, 8, .inl (zA xp))), (az, .inl (cI, 8, .inl (zA xz))), (ar, .inl (cI, 8, .inl (zA xr)))]) (wc := [(h0, .inr (5, [.ref ae, .ref al, .ref ap, .ref az, .ref ar, .int (zI np), .ref am, .int (zI th)])), (ae, .inl (cI, 256, .inl (zA xe))), (al, .inl (cI, 4, .inl (zA xl))), (am, .inl (cI, 64, .inl (zA xm)))]) (rc := [(ap, .inl (cI, 8, .inl (zA xp))), (az, .inl (cI, 8, .inl (zA xz))), (ar, .inl (cI, 8, .inl (zA xr)))]) hD hR0 (isC := [0, 1, 2, 3]) (isR := [4, 5, 6]) rfl rfl (by decide)) (hK.sub (tys' := [(cI, .int)]) [0] rfl)) rfl rfl hl.1 rfl (lv_room (Nat.le_of_ble_eq_true rfl)) dX6_forward_5 ⟨Nat.le_of_ble_eq_true rfl, Nat.le_of_ble_eq_true rfl⟩) hP hD hS hA [0, 1, 2, 3] [] rfl rfl (by decide) (by decide) (cells' := 0) (slots' := 0) rfl rfl (fun u_5 H locs hp_5 hP hD hS => ?_)
  obtain ⟨xe2_5, xm2_5⟩ := u_5
  have hp_5 : (∀ k, 0 ≤ k → k < xz i → xe2_5 (64 * r + k) = sumR (xp i) (xz i) (xr i) (fun j => rowAt (eRow xe r) (xl r) j % xp i) k * 1 % xp i) ∧ (∀ x, x < 64 * r ∨ 64 * r + xz i ≤ x → xe2_5 x = xe x) := hp_5
  have hP := hP.sub (ws' := [(h0, .inr (5, [.ref ae, .ref al, .ref ap, .ref az, .ref ar, .int (zI np), .ref am, .int (zI 0)])), (ae, .inl (cI, 256, .inl (zA xe2_5))), (al, .inl (cI, 4, .inl (zA (zU xl r (xz i))))), (am, .inl (cI, 64, .inl (zA xm2_5)))]) [0, 1, 2, 3] rfl
  have hD := hD.sub (ws' := [(h0, .inr (5, [.ref ae, .ref al, .ref ap, .ref az, .ref ar, .int (zI np), .ref am, .int (zI 0)])), (ae, .inl (cI, 256, .inl (zA xe2_5))), (al, .inl (cI, 4, .inl (zA (zU xl r (xz i))))), (am, .inl (cI, 64, .inl (zA xm2_5)))]) [0, 1, 2, 3] (by decide) rfl
  have hR := hR0.at hS
  exact z_iret hx hb hr hlocks rfl (xe2_5, xm2_5) (rfl) (by exact hp_5) hP hD hS dX6_forward_8

set_option maxHeartbeats 4000000 in
set_option maxRecDepth 100000 in
theorem c_X6_transforms_1ab (l : Launch) (D : va_G) (cI : ClassId) (h0 : Nat) (ae : Nat) (al : Nat) (ap : Nat) (az : Nat) (ar : Nat) (am : Nat) (np : Int) (th : Int) (i : Int) (r : Int) (w : Int) (ha_i : -2147483648 ≤ i ∧ i ≤ 2147483647) (ha_r : -2147483648 ≤ r ∧ r ≤ 2147483647) (ha_w : -2147483648 ≤ w ∧ w ≤ 2147483647) (hnp_ : 0 ≤ np ∧ np ≤ 8) (hi0 : ¬ (0 ≤ i ∧ i < np)) : zC l yX6_transforms wsX6_transforms ({ frames := 1, cells := 0, slots := 0, locals := 21 } : Room) D [(cI, .int)] [(h0, .inr (5, [.ref ae, .ref al, .ref ap, .ref az, .ref ar, .int (zI np), .ref am, .int (zI th)]))] [] [.ref h0, .int (zI i), .int (zI r), .int (zI w), .int (zI 1)] (S := Unit) (fun u => True) (fun u => some (.int (zI 0))) (fun u => [(h0, .inr (5, [.ref ae, .ref al, .ref ap, .ref az, .ref ar, .int (zI np), .ref am, .int (zI 1)]))]) := by
  refine z_start (cc := cX6_transforms) (maxL := 10) (ret := (some .int)) (own := RX6) (by decide) rfl rfl (Nat.le_of_ble_eq_true rfl) [(0, .ref h0), (1, .int (zI i)), (2, .int (zI r)), (3, .int (zI w)), (4, .int (zI 1))] rfl ?_
  intro pp ee s mm below meth cc A H ls hx hb hr hml hts hown hlocks hin hK hA hP hD hS hR0 hR hl
  have CF : CallFix pp mm cc cX6_transforms 10 s ([.ref h0, .int (zI i), .int (zI r), .int (zI w), .int (zI 1)] : List Value).toArray wsX6_transforms RX6 := ⟨hx, hb, hml, hown, hts⟩
  have hi6 : ∀ w ∈ wsX60, w ∈ wsX6_transforms := by decide +kernel
  refine lv_aload_n hx hb dX6_transforms_0 rfl (lv_at hl 0 rfl) ?_
  refine lv_iload_n hx hb dX6_transforms_1 rfl (lv_at hl 1 rfl) ?_
  have hRc := z_subR (ws := [(h0, .inr (5, [.ref ae, .ref al, .ref ap, .ref az, .ref ar, .int (zI np), .ref am, .int (zI th)]))]) (rs := []) (rc := [(h0, .inr (5, [.ref ae, .ref al, .ref ap, .ref az, .ref ar, .int (zI np), .ref am, .int (zI th)]))]) hP z_nilP (isR := [0]) rfl
  refine z_ro (ws := [(h0, .inr (5, [.ref ae, .ref al, .ref ap, .ref az, .ref ar, .int (zI np), .ref am, .int (zI th)]))]) (va_runV (As := [.int (zI i)]) (rest := []) CF (c_X6_isPlan l D h0 ae al ap az ar am np th i (by omega) (by omega) H.size) (cwV 1 hts gX6_transforms_X6_isPlan rfl rfl rfl (by decide +kernel) ⟨Nat.le_of_ble_eq_true rfl, Nat.le_of_ble_eq_true rfl⟩) (z_preV (va_recv hK hP (ci := 5) (q0 := 0) rfl rfl) z_nilP (z_nilD (A := A)) hRc z_noX (hK.sub (tys' := []) [] rfl)) rfl rfl hl.1 rfl (lv_room (Nat.le_of_ble_eq_true rfl)) dX6_transforms_2 ⟨Nat.le_of_ble_eq_true rfl, Nat.le_of_ble_eq_true rfl⟩) hP hS hA (cells' := 0) (slots' := 0) rfl rfl (fun H locs hP hS => ?_)
  refine z_ifB_eq (tgt := 15) hx hb dX6_transforms_5 (by decide) (fun c_5 => ?_) (fun c_5 => absurd c_5 (by omega))
  refine lv_aload_n hx hb dX6_transforms_15 rfl (lv_at hl 0 rfl) ?_
  refine z_iconst hx hb dX6_transforms_16 ?_
  refine va_put (D := D) (ci := 5) (v := .int (zI 1)) (ty := .int) (C := RX6) (T := TX6) (N := 8) hx hb hts hi6 tyX6 tyX6_ok nmX6 hown hK hP hD hS 0 rfl rfl 7 (by decide) (hts (.fieldLink RX6 28 "ButterflyYardModel" "thrown" "I") (by decide +kernel)) (fun _ h9 => h9) rfl (by decide +kernel) rfl rfl (Nat.le_of_ble_eq_true rfl) dX6_transforms_17 (fun H locs hP hD hS => ?_)
  have hP : va_P D vwCl [(h0, .inr (5, [.ref ae, .ref al, .ref ap, .ref az, .ref ar, .int (zI np), .ref am, .int (zI 1)]))] H := hP
  have hD : va_D A [(h0, .inr (5, [.ref ae, .ref al, .ref ap, .ref az, .ref ar, .int (zI np), .ref am, .int (zI 1)]))] := hD
  refine z_iconst hx hb dX6_transforms_20 ?_
  exact z_iret hx hb hr hlocks rfl () (rfl) (trivial) hP hD hS dX6_transforms_21

set_option maxHeartbeats 4000000 in
set_option maxRecDepth 100000 in
theorem c_X6_transforms_1bb (l : Launch) (D : va_G) (cI : ClassId) (h0 : Nat) (ae : Nat) (al : Nat) (ap : Nat) (az : Nat) (ar : Nat) (am : Nat) (np : Int) (th : Int) (i : Int) (r : Int) (w : Int) (ha_i : -2147483648 ≤ i ∧ i ≤ 2147483647) (ha_r : -2147483648 ≤ r ∧ r ≤ 2147483647) (ha_w : -2147483648 ≤ w ∧ w ≤ 2147483647) (hnp_ : 0 ≤ np ∧ np ≤ 8) (hi0 : 0 ≤ i ∧ i < np) (hb_r : ¬ (0 ≤ r ∧ r < 4)) : zC l yX6_transforms wsX6_transforms ({ frames := 1, cells := 0, slots := 0, locals := 21 } : Room) D [(cI, .int)] [(h0, .inr (5, [.ref ae, .ref al, .ref ap, .ref az, .ref ar, .int (zI np), .ref am, .int (zI th)]))] [] [.ref h0, .int (zI i), .int (zI r), .int (zI w), .int (zI 1)] (S := Unit) (fun u => True) (fun u => some (.int (zI 0))) (fun u => [(h0, .inr (5, [.ref ae, .ref al, .ref ap, .ref az, .ref ar, .int (zI np), .ref am, .int (zI 1)]))]) := by
  refine z_start (cc := cX6_transforms) (maxL := 10) (ret := (some .int)) (own := RX6) (by decide) rfl rfl (Nat.le_of_ble_eq_true rfl) [(0, .ref h0), (1, .int (zI i)), (2, .int (zI r)), (3, .int (zI w)), (4, .int (zI 1))] rfl ?_
  intro pp ee s mm below meth cc A H ls hx hb hr hml hts hown hlocks hin hK hA hP hD hS hR0 hR hl
  have CF : CallFix pp mm cc cX6_transforms 10 s ([.ref h0, .int (zI i), .int (zI r), .int (zI w), .int (zI 1)] : List Value).toArray wsX6_transforms RX6 := ⟨hx, hb, hml, hown, hts⟩
  have hi6 : ∀ w ∈ wsX60, w ∈ wsX6_transforms := by decide +kernel
  refine lv_aload_n hx hb dX6_transforms_0 rfl (lv_at hl 0 rfl) ?_
  refine lv_iload_n hx hb dX6_transforms_1 rfl (lv_at hl 1 rfl) ?_
  have hRc := z_subR (ws := [(h0, .inr (5, [.ref ae, .ref al, .ref ap, .ref az, .ref ar, .int (zI np), .ref am, .int (zI th)]))]) (rs := []) (rc := [(h0, .inr (5, [.ref ae, .ref al, .ref ap, .ref az, .ref ar, .int (zI np), .ref am, .int (zI th)]))]) hP z_nilP (isR := [0]) rfl
  refine z_ro (ws := [(h0, .inr (5, [.ref ae, .ref al, .ref ap, .ref az, .ref ar, .int (zI np), .ref am, .int (zI th)]))]) (va_runV (As := [.int (zI i)]) (rest := []) CF (c_X6_isPlan l D h0 ae al ap az ar am np th i (by omega) (by omega) H.size) (cwV 1 hts gX6_transforms_X6_isPlan rfl rfl rfl (by decide +kernel) ⟨Nat.le_of_ble_eq_true rfl, Nat.le_of_ble_eq_true rfl⟩) (z_preV (va_recv hK hP (ci := 5) (q0 := 0) rfl rfl) z_nilP (z_nilD (A := A)) hRc z_noX (hK.sub (tys' := []) [] rfl)) rfl rfl hl.1 rfl (lv_room (Nat.le_of_ble_eq_true rfl)) dX6_transforms_2 ⟨Nat.le_of_ble_eq_true rfl, Nat.le_of_ble_eq_true rfl⟩) hP hS hA (cells' := 0) (slots' := 0) rfl rfl (fun H locs hP hS => ?_)
  refine z_ifB_eq (tgt := 15) hx hb dX6_transforms_5 (by decide) (fun c_5 => absurd c_5 (by omega)) (fun c_5 => ?_)
  refine lv_iload_n hx hb dX6_transforms_8 rfl (lv_at hl 2 rfl) ?_
  have hRc : va_P D vwCl [] H := z_nilP
  refine z_ro (ws := [(h0, .inr (5, [.ref ae, .ref al, .ref ap, .ref az, .ref ar, .int (zI np), .ref am, .int (zI th)]))]) (va_runS (As := [.int (zI r)]) (rest := []) CF (c_X6_isRow l D r (by omega) H.size) (va_cwS 1 hts gX6_transforms_X6_isRow rfl rfl rfl (by decide +kernel) ⟨Nat.le_of_ble_eq_true rfl, Nat.le_of_ble_eq_true rfl⟩) (z_preS z_nilP (z_nilD (A := A)) hRc z_noX (hK.sub (tys' := []) [] rfl)) rfl rfl hl.1 rfl (lv_room (Nat.le_of_ble_eq_true rfl)) dX6_transforms_9 ⟨Nat.le_of_ble_eq_true rfl, Nat.le_of_ble_eq_true rfl⟩) hP hS hA (cells' := 0) (slots' := 0) rfl rfl (fun H locs hP hS => ?_)
  refine z_ifB_ne (tgt := 22) hx hb dX6_transforms_12 (by decide) (fun c_12 => absurd c_12 (by omega)) (fun c_12 => ?_)
  refine lv_aload_n hx hb dX6_transforms_15 rfl (lv_at hl 0 rfl) ?_
  refine z_iconst hx hb dX6_transforms_16 ?_
  refine va_put (D := D) (ci := 5) (v := .int (zI 1)) (ty := .int) (C := RX6) (T := TX6) (N := 8) hx hb hts hi6 tyX6 tyX6_ok nmX6 hown hK hP hD hS 0 rfl rfl 7 (by decide) (hts (.fieldLink RX6 28 "ButterflyYardModel" "thrown" "I") (by decide +kernel)) (fun _ h9 => h9) rfl (by decide +kernel) rfl rfl (Nat.le_of_ble_eq_true rfl) dX6_transforms_17 (fun H locs hP hD hS => ?_)
  have hP : va_P D vwCl [(h0, .inr (5, [.ref ae, .ref al, .ref ap, .ref az, .ref ar, .int (zI np), .ref am, .int (zI 1)]))] H := hP
  have hD : va_D A [(h0, .inr (5, [.ref ae, .ref al, .ref ap, .ref az, .ref ar, .int (zI np), .ref am, .int (zI 1)]))] := hD
  refine z_iconst hx hb dX6_transforms_20 ?_
  exact z_iret hx hb hr hlocks rfl () (rfl) (trivial) hP hD hS dX6_transforms_21

set_option maxHeartbeats 4000000 in
set_option maxRecDepth 100000 in
theorem c_X6_transforms_2ab (l : Launch) (D : va_G) (cI : ClassId) (h0 : Nat) (ae : Nat) (al : Nat) (ap : Nat) (az : Nat) (ar : Nat) (am : Nat) (np : Int) (th : Int) (i : Int) (r : Int) (w : Int) (ha_i : -2147483648 ≤ i ∧ i ≤ 2147483647) (ha_r : -2147483648 ≤ r ∧ r ≤ 2147483647) (ha_w : -2147483648 ≤ w ∧ w ≤ 2147483647) (hnp_ : 0 ≤ np ∧ np ≤ 8) (hi0 : 0 ≤ i ∧ i < np) (hr_r : 0 ≤ r ∧ r < 4) (hw_ : w < 0) : zC l yX6_transforms wsX6_transforms ({ frames := 1, cells := 0, slots := 0, locals := 21 } : Room) D [(cI, .int)] [(h0, .inr (5, [.ref ae, .ref al, .ref ap, .ref az, .ref ar, .int (zI np), .ref am, .int (zI th)]))] [] [.ref h0, .int (zI i), .int (zI r), .int (zI w), .int (zI 1)] (S := Unit) (fun u => True) (fun u => some (.int (zI 0))) (fun u => [(h0, .inr (5, [.ref ae, .ref al, .ref ap, .ref az, .ref ar, .int (zI np), .ref am, .int (zI 2)]))]) := by
  refine z_start (cc := cX6_transforms) (maxL := 10) (ret := (some .int)) (own := RX6) (by decide) rfl rfl (Nat.le_of_ble_eq_true rfl) [(0, .ref h0), (1, .int (zI i)), (2, .int (zI r)), (3, .int (zI w)), (4, .int (zI 1))] rfl ?_
  intro pp ee s mm below meth cc A H ls hx hb hr hml hts hown hlocks hin hK hA hP hD hS hR0 hR hl
  have CF : CallFix pp mm cc cX6_transforms 10 s ([.ref h0, .int (zI i), .int (zI r), .int (zI w), .int (zI 1)] : List Value).toArray wsX6_transforms RX6 := ⟨hx, hb, hml, hown, hts⟩
  have hi6 : ∀ w ∈ wsX60, w ∈ wsX6_transforms := by decide +kernel
  refine lv_aload_n hx hb dX6_transforms_0 rfl (lv_at hl 0 rfl) ?_
  refine lv_iload_n hx hb dX6_transforms_1 rfl (lv_at hl 1 rfl) ?_
  have hRc := z_subR (ws := [(h0, .inr (5, [.ref ae, .ref al, .ref ap, .ref az, .ref ar, .int (zI np), .ref am, .int (zI th)]))]) (rs := []) (rc := [(h0, .inr (5, [.ref ae, .ref al, .ref ap, .ref az, .ref ar, .int (zI np), .ref am, .int (zI th)]))]) hP z_nilP (isR := [0]) rfl
  refine z_ro (ws := [(h0, .inr (5, [.ref ae, .ref al, .ref ap, .ref az, .ref ar, .int (zI np), .ref am, .int (zI th)]))]) (va_runV (As := [.int (zI i)]) (rest := []) CF (c_X6_isPlan l D h0 ae al ap az ar am np th i (by omega) (by omega) H.size) (cwV 1 hts gX6_transforms_X6_isPlan rfl rfl rfl (by decide +kernel) ⟨Nat.le_of_ble_eq_true rfl, Nat.le_of_ble_eq_true rfl⟩) (z_preV (va_recv hK hP (ci := 5) (q0 := 0) rfl rfl) z_nilP (z_nilD (A := A)) hRc z_noX (hK.sub (tys' := []) [] rfl)) rfl rfl hl.1 rfl (lv_room (Nat.le_of_ble_eq_true rfl)) dX6_transforms_2 ⟨Nat.le_of_ble_eq_true rfl, Nat.le_of_ble_eq_true rfl⟩) hP hS hA (cells' := 0) (slots' := 0) rfl rfl (fun H locs hP hS => ?_)
  refine z_ifB_eq (tgt := 15) hx hb dX6_transforms_5 (by decide) (fun c_5 => absurd c_5 (by omega)) (fun c_5 => ?_)
  refine lv_iload_n hx hb dX6_transforms_8 rfl (lv_at hl 2 rfl) ?_
  have hRc : va_P D vwCl [] H := z_nilP
  refine z_ro (ws := [(h0, .inr (5, [.ref ae, .ref al, .ref ap, .ref az, .ref ar, .int (zI np), .ref am, .int (zI th)]))]) (va_runS (As := [.int (zI r)]) (rest := []) CF (c_X6_isRow l D r (by omega) H.size) (va_cwS 1 hts gX6_transforms_X6_isRow rfl rfl rfl (by decide +kernel) ⟨Nat.le_of_ble_eq_true rfl, Nat.le_of_ble_eq_true rfl⟩) (z_preS z_nilP (z_nilD (A := A)) hRc z_noX (hK.sub (tys' := []) [] rfl)) rfl rfl hl.1 rfl (lv_room (Nat.le_of_ble_eq_true rfl)) dX6_transforms_9 ⟨Nat.le_of_ble_eq_true rfl, Nat.le_of_ble_eq_true rfl⟩) hP hS hA (cells' := 0) (slots' := 0) rfl rfl (fun H locs hP hS => ?_)
  refine z_ifB_ne (tgt := 22) hx hb dX6_transforms_12 (by decide) (fun c_12 => ?_) (fun c_12 => absurd c_12 (by omega))
  refine lv_iload_n hx hb dX6_transforms_22 rfl (lv_at hl 3 rfl) ?_
  refine z_if_lt (tgt := 48) hx hb dX6_transforms_23 (by decide) (by omega) (fun c_23 => ?_) (fun c_23 => absurd c_23 (by omega))
  refine z_iconst hx hb dX6_transforms_48 ?_
  refine lv_istore (lv' := [(5, .int (zI 0)), (0, .ref h0), (1, .int (zI i)), (2, .int (zI r)), (3, .int (zI w)), (4, .int (zI 1))]) hx hb dX6_transforms_49 hl (by decide) rfl (fun ls hl => ?_)
  have hl := lv_sub hl [1, 2, 3, 4, 5, 0] rfl
  have hl : lv_has ls 10 [(0, .ref h0), (1, .int (zI i)), (2, .int (zI r)), (3, .int (zI w)), (4, .int (zI 1)), (5, .int (zI 0))] := hl
  refine lv_aload_n hx hb dX6_transforms_51 rfl (lv_at hl 0 rfl) ?_
  refine lv_iload hx hb dX6_transforms_52 (lv_at hl 5 rfl) ?_
  refine z_if_ne (tgt := 61) hx hb dX6_transforms_54 (by decide) (by omega) (fun c_54 => absurd c_54 (by omega)) (fun c_54 => ?_)
  refine z_iconst hx hb dX6_transforms_57 ?_
  refine lv_goto (tgt := 81) hx hb dX6_transforms_58 (by decide) ?_
  refine va_put (D := D) (ci := 5) (v := .int (zI 2)) (ty := .int) (C := RX6) (T := TX6) (N := 8) hx hb hts hi6 tyX6 tyX6_ok nmX6 hown hK hP hD hS 0 rfl rfl 7 (by decide) (hts (.fieldLink RX6 28 "ButterflyYardModel" "thrown" "I") (by decide +kernel)) (fun _ h9 => h9) rfl (by decide +kernel) rfl rfl (Nat.le_of_ble_eq_true rfl) dX6_transforms_81 (fun H locs hP hD hS => ?_)
  have hP : va_P D vwCl [(h0, .inr (5, [.ref ae, .ref al, .ref ap, .ref az, .ref ar, .int (zI np), .ref am, .int (zI 2)]))] H := hP
  have hD : va_D A [(h0, .inr (5, [.ref ae, .ref al, .ref ap, .ref az, .ref ar, .int (zI np), .ref am, .int (zI 2)]))] := hD
  refine lv_aload_n hx hb dX6_transforms_84 rfl (lv_at hl 0 rfl) ?_
  refine va_get (D := D) (ci := 5) (C := RX6) (T := TX6) (N := 8) hx hb hts hi6 hown hK hP 0 rfl rfl 7 (by decide) (hts (.fieldLink RX6 28 "ButterflyYardModel" "thrown" "I") (by decide +kernel)) (fun _ h9 => h9) rfl dX6_transforms_85 ?_
  refine z_if_eq (tgt := 93) hx hb dX6_transforms_88 (by decide) (by omega) (fun c_88 => absurd c_88 (by omega)) (fun c_88 => ?_)
  refine z_iconst hx hb dX6_transforms_91 ?_
  exact z_iret hx hb hr hlocks rfl () (rfl) (trivial) hP hD hS dX6_transforms_92

set_option maxHeartbeats 4000000 in
set_option maxRecDepth 100000 in
theorem c_X6_transforms_2bb (l : Launch) (D : va_G) (cI : ClassId) (h0 : Nat) (ae : Nat) (al : Nat) (ap : Nat) (az : Nat) (ar : Nat) (am : Nat) (np : Int) (th : Int) (i : Int) (r : Int) (w : Int) (ha_i : -2147483648 ≤ i ∧ i ≤ 2147483647) (ha_r : -2147483648 ≤ r ∧ r ≤ 2147483647) (ha_w : -2147483648 ≤ w ∧ w ≤ 2147483647) (hnp_ : 0 ≤ np ∧ np ≤ 8) (hi0 : 0 ≤ i ∧ i < np) (hr_r : 0 ≤ r ∧ r < 4) (hw_ : 4 < w) : zC l yX6_transforms wsX6_transforms ({ frames := 1, cells := 0, slots := 0, locals := 21 } : Room) D [(cI, .int)] [(h0, .inr (5, [.ref ae, .ref al, .ref ap, .ref az, .ref ar, .int (zI np), .ref am, .int (zI th)]))] [] [.ref h0, .int (zI i), .int (zI r), .int (zI w), .int (zI 1)] (S := Unit) (fun u => True) (fun u => some (.int (zI 0))) (fun u => [(h0, .inr (5, [.ref ae, .ref al, .ref ap, .ref az, .ref ar, .int (zI np), .ref am, .int (zI 2)]))]) := by
  refine z_start (cc := cX6_transforms) (maxL := 10) (ret := (some .int)) (own := RX6) (by decide) rfl rfl (Nat.le_of_ble_eq_true rfl) [(0, .ref h0), (1, .int (zI i)), (2, .int (zI r)), (3, .int (zI w)), (4, .int (zI 1))] rfl ?_
  intro pp ee s mm below meth cc A H ls hx hb hr hml hts hown hlocks hin hK hA hP hD hS hR0 hR hl
  have CF : CallFix pp mm cc cX6_transforms 10 s ([.ref h0, .int (zI i), .int (zI r), .int (zI w), .int (zI 1)] : List Value).toArray wsX6_transforms RX6 := ⟨hx, hb, hml, hown, hts⟩
  have hi6 : ∀ w ∈ wsX60, w ∈ wsX6_transforms := by decide +kernel
  refine lv_aload_n hx hb dX6_transforms_0 rfl (lv_at hl 0 rfl) ?_
  refine lv_iload_n hx hb dX6_transforms_1 rfl (lv_at hl 1 rfl) ?_
  have hRc := z_subR (ws := [(h0, .inr (5, [.ref ae, .ref al, .ref ap, .ref az, .ref ar, .int (zI np), .ref am, .int (zI th)]))]) (rs := []) (rc := [(h0, .inr (5, [.ref ae, .ref al, .ref ap, .ref az, .ref ar, .int (zI np), .ref am, .int (zI th)]))]) hP z_nilP (isR := [0]) rfl
  refine z_ro (ws := [(h0, .inr (5, [.ref ae, .ref al, .ref ap, .ref az, .ref ar, .int (zI np), .ref am, .int (zI th)]))]) (va_runV (As := [.int (zI i)]) (rest := []) CF (c_X6_isPlan l D h0 ae al ap az ar am np th i (by omega) (by omega) H.size) (cwV 1 hts gX6_transforms_X6_isPlan rfl rfl rfl (by decide +kernel) ⟨Nat.le_of_ble_eq_true rfl, Nat.le_of_ble_eq_true rfl⟩) (z_preV (va_recv hK hP (ci := 5) (q0 := 0) rfl rfl) z_nilP (z_nilD (A := A)) hRc z_noX (hK.sub (tys' := []) [] rfl)) rfl rfl hl.1 rfl (lv_room (Nat.le_of_ble_eq_true rfl)) dX6_transforms_2 ⟨Nat.le_of_ble_eq_true rfl, Nat.le_of_ble_eq_true rfl⟩) hP hS hA (cells' := 0) (slots' := 0) rfl rfl (fun H locs hP hS => ?_)
  refine z_ifB_eq (tgt := 15) hx hb dX6_transforms_5 (by decide) (fun c_5 => absurd c_5 (by omega)) (fun c_5 => ?_)
  refine lv_iload_n hx hb dX6_transforms_8 rfl (lv_at hl 2 rfl) ?_
  have hRc : va_P D vwCl [] H := z_nilP
  refine z_ro (ws := [(h0, .inr (5, [.ref ae, .ref al, .ref ap, .ref az, .ref ar, .int (zI np), .ref am, .int (zI th)]))]) (va_runS (As := [.int (zI r)]) (rest := []) CF (c_X6_isRow l D r (by omega) H.size) (va_cwS 1 hts gX6_transforms_X6_isRow rfl rfl rfl (by decide +kernel) ⟨Nat.le_of_ble_eq_true rfl, Nat.le_of_ble_eq_true rfl⟩) (z_preS z_nilP (z_nilD (A := A)) hRc z_noX (hK.sub (tys' := []) [] rfl)) rfl rfl hl.1 rfl (lv_room (Nat.le_of_ble_eq_true rfl)) dX6_transforms_9 ⟨Nat.le_of_ble_eq_true rfl, Nat.le_of_ble_eq_true rfl⟩) hP hS hA (cells' := 0) (slots' := 0) rfl rfl (fun H locs hP hS => ?_)
  refine z_ifB_ne (tgt := 22) hx hb dX6_transforms_12 (by decide) (fun c_12 => ?_) (fun c_12 => absurd c_12 (by omega))
  refine lv_iload_n hx hb dX6_transforms_22 rfl (lv_at hl 3 rfl) ?_
  refine z_if_lt (tgt := 48) hx hb dX6_transforms_23 (by decide) (by omega) (fun c_23 => absurd c_23 (by omega)) (fun c_23 => ?_)
  refine lv_iload_n hx hb dX6_transforms_26 rfl (lv_at hl 3 rfl) ?_
  refine z_iconst hx hb dX6_transforms_27 ?_
  refine z_icmp_gt (tgt := 48) hx hb dX6_transforms_28 (by decide) (by omega) (fun c_28 => ?_) (fun c_28 => absurd c_28 (by omega))
  refine z_iconst hx hb dX6_transforms_48 ?_
  refine lv_istore (lv' := [(5, .int (zI 0)), (0, .ref h0), (1, .int (zI i)), (2, .int (zI r)), (3, .int (zI w)), (4, .int (zI 1))]) hx hb dX6_transforms_49 hl (by decide) rfl (fun ls hl => ?_)
  have hl := lv_sub hl [1, 2, 3, 4, 5, 0] rfl
  have hl : lv_has ls 10 [(0, .ref h0), (1, .int (zI i)), (2, .int (zI r)), (3, .int (zI w)), (4, .int (zI 1)), (5, .int (zI 0))] := hl
  refine lv_aload_n hx hb dX6_transforms_51 rfl (lv_at hl 0 rfl) ?_
  refine lv_iload hx hb dX6_transforms_52 (lv_at hl 5 rfl) ?_
  refine z_if_ne (tgt := 61) hx hb dX6_transforms_54 (by decide) (by omega) (fun c_54 => absurd c_54 (by omega)) (fun c_54 => ?_)
  refine z_iconst hx hb dX6_transforms_57 ?_
  refine lv_goto (tgt := 81) hx hb dX6_transforms_58 (by decide) ?_
  refine va_put (D := D) (ci := 5) (v := .int (zI 2)) (ty := .int) (C := RX6) (T := TX6) (N := 8) hx hb hts hi6 tyX6 tyX6_ok nmX6 hown hK hP hD hS 0 rfl rfl 7 (by decide) (hts (.fieldLink RX6 28 "ButterflyYardModel" "thrown" "I") (by decide +kernel)) (fun _ h9 => h9) rfl (by decide +kernel) rfl rfl (Nat.le_of_ble_eq_true rfl) dX6_transforms_81 (fun H locs hP hD hS => ?_)
  have hP : va_P D vwCl [(h0, .inr (5, [.ref ae, .ref al, .ref ap, .ref az, .ref ar, .int (zI np), .ref am, .int (zI 2)]))] H := hP
  have hD : va_D A [(h0, .inr (5, [.ref ae, .ref al, .ref ap, .ref az, .ref ar, .int (zI np), .ref am, .int (zI 2)]))] := hD
  refine lv_aload_n hx hb dX6_transforms_84 rfl (lv_at hl 0 rfl) ?_
  refine va_get (D := D) (ci := 5) (C := RX6) (T := TX6) (N := 8) hx hb hts hi6 hown hK hP 0 rfl rfl 7 (by decide) (hts (.fieldLink RX6 28 "ButterflyYardModel" "thrown" "I") (by decide +kernel)) (fun _ h9 => h9) rfl dX6_transforms_85 ?_
  refine z_if_eq (tgt := 93) hx hb dX6_transforms_88 (by decide) (by omega) (fun c_88 => absurd c_88 (by omega)) (fun c_88 => ?_)
  refine z_iconst hx hb dX6_transforms_91 ?_
  exact z_iret hx hb hr hlocks rfl () (rfl) (trivial) hP hD hS dX6_transforms_92

set_option maxHeartbeats 4000000 in
set_option maxRecDepth 100000 in
theorem c_X6_transforms_2cb (l : Launch) (D : va_G) (cI : ClassId) (h0 : Nat) (ae : Nat) (al : Nat) (ap : Nat) (az : Nat) (ar : Nat) (am : Nat) (np : Int) (th : Int) (xz : Int → Int) (i : Int) (r : Int) (w : Int) (ha_i : -2147483648 ≤ i ∧ i ≤ 2147483647) (ha_r : -2147483648 ≤ r ∧ r ≤ 2147483647) (ha_w : -2147483648 ≤ w ∧ w ≤ 2147483647) (hnp_ : 0 ≤ np ∧ np ≤ 8) (hi0 : 0 ≤ i ∧ i < np) (hz_ : 1 ≤ xz i ∧ xz i ≤ 64) (hr_r : 0 ≤ r ∧ r < 4) (hw_ : 0 ≤ w ∧ w ≤ 4) (hw2 : wset (xz i) / 2 ^ w.toNat % 2 ≠ 1) : zC l yX6_transforms wsX6_transforms ({ frames := 2, cells := 0, slots := 0, locals := 46 } : Room) D [(cI, .int)] [(h0, .inr (5, [.ref ae, .ref al, .ref ap, .ref az, .ref ar, .int (zI np), .ref am, .int (zI th)]))] [(az, .inl (cI, 8, .inl (zA xz)))] [.ref h0, .int (zI i), .int (zI r), .int (zI w), .int (zI 1)] (S := Unit) (fun u => True) (fun u => some (.int (zI 0))) (fun u => [(h0, .inr (5, [.ref ae, .ref al, .ref ap, .ref az, .ref ar, .int (zI np), .ref am, .int (zI 2)]))]) := by
  refine z_start (cc := cX6_transforms) (maxL := 10) (ret := (some .int)) (own := RX6) (by decide) rfl rfl (Nat.le_of_ble_eq_true rfl) [(0, .ref h0), (1, .int (zI i)), (2, .int (zI r)), (3, .int (zI w)), (4, .int (zI 1))] rfl ?_
  intro pp ee s mm below meth cc A H ls hx hb hr hml hts hown hlocks hin hK hA hP hD hS hR0 hR hl
  have CF : CallFix pp mm cc cX6_transforms 10 s ([.ref h0, .int (zI i), .int (zI r), .int (zI w), .int (zI 1)] : List Value).toArray wsX6_transforms RX6 := ⟨hx, hb, hml, hown, hts⟩
  have hi6 : ∀ w ∈ wsX60, w ∈ wsX6_transforms := by decide +kernel
  refine lv_aload_n hx hb dX6_transforms_0 rfl (lv_at hl 0 rfl) ?_
  refine lv_iload_n hx hb dX6_transforms_1 rfl (lv_at hl 1 rfl) ?_
  have hRc := z_subR (ws := [(h0, .inr (5, [.ref ae, .ref al, .ref ap, .ref az, .ref ar, .int (zI np), .ref am, .int (zI th)]))]) (rs := [(az, .inl (cI, 8, .inl (zA xz)))]) (rc := [(h0, .inr (5, [.ref ae, .ref al, .ref ap, .ref az, .ref ar, .int (zI np), .ref am, .int (zI th)]))]) hP hR (isR := [0]) rfl
  refine z_ro (ws := [(h0, .inr (5, [.ref ae, .ref al, .ref ap, .ref az, .ref ar, .int (zI np), .ref am, .int (zI th)]))]) (va_runV (As := [.int (zI i)]) (rest := []) CF (c_X6_isPlan l D h0 ae al ap az ar am np th i (by omega) (by omega) H.size) (cwV 1 hts gX6_transforms_X6_isPlan rfl rfl rfl (by decide +kernel) ⟨Nat.le_of_ble_eq_true rfl, Nat.le_of_ble_eq_true rfl⟩) (z_preV (va_recv hK hP (ci := 5) (q0 := 0) rfl rfl) z_nilP (z_nilD (A := A)) hRc z_noX (hK.sub (tys' := []) [] rfl)) rfl rfl hl.1 rfl (lv_room (Nat.le_of_ble_eq_true rfl)) dX6_transforms_2 ⟨Nat.le_of_ble_eq_true rfl, Nat.le_of_ble_eq_true rfl⟩) hP hS hA (cells' := 0) (slots' := 0) rfl rfl (fun H locs hP hS => ?_)
  have hR := hR0.at hS
  refine z_ifB_eq (tgt := 15) hx hb dX6_transforms_5 (by decide) (fun c_5 => absurd c_5 (by omega)) (fun c_5 => ?_)
  refine lv_iload_n hx hb dX6_transforms_8 rfl (lv_at hl 2 rfl) ?_
  have hRc : va_P D vwCl [] H := z_nilP
  refine z_ro (ws := [(h0, .inr (5, [.ref ae, .ref al, .ref ap, .ref az, .ref ar, .int (zI np), .ref am, .int (zI th)]))]) (va_runS (As := [.int (zI r)]) (rest := []) CF (c_X6_isRow l D r (by omega) H.size) (va_cwS 1 hts gX6_transforms_X6_isRow rfl rfl rfl (by decide +kernel) ⟨Nat.le_of_ble_eq_true rfl, Nat.le_of_ble_eq_true rfl⟩) (z_preS z_nilP (z_nilD (A := A)) hRc z_noX (hK.sub (tys' := []) [] rfl)) rfl rfl hl.1 rfl (lv_room (Nat.le_of_ble_eq_true rfl)) dX6_transforms_9 ⟨Nat.le_of_ble_eq_true rfl, Nat.le_of_ble_eq_true rfl⟩) hP hS hA (cells' := 0) (slots' := 0) rfl rfl (fun H locs hP hS => ?_)
  have hR := hR0.at hS
  refine z_ifB_ne (tgt := 22) hx hb dX6_transforms_12 (by decide) (fun c_12 => ?_) (fun c_12 => absurd c_12 (by omega))
  refine lv_iload_n hx hb dX6_transforms_22 rfl (lv_at hl 3 rfl) ?_
  refine z_if_lt (tgt := 48) hx hb dX6_transforms_23 (by decide) (by omega) (fun c_23 => absurd c_23 (by omega)) (fun c_23 => ?_)
  refine lv_iload_n hx hb dX6_transforms_26 rfl (lv_at hl 3 rfl) ?_
  refine z_iconst hx hb dX6_transforms_27 ?_
  refine z_icmp_gt (tgt := 48) hx hb dX6_transforms_28 (by decide) (by omega) (fun c_28 => absurd c_28 (by omega)) (fun c_28 => ?_)
  refine lv_aload_n hx hb dX6_transforms_31 rfl (lv_at hl 0 rfl) ?_
  refine lv_iload_n hx hb dX6_transforms_32 rfl (lv_at hl 1 rfl) ?_
  have hRc := z_subR (ws := [(h0, .inr (5, [.ref ae, .ref al, .ref ap, .ref az, .ref ar, .int (zI np), .ref am, .int (zI th)]))]) (rs := [(az, .inl (cI, 8, .inl (zA xz)))]) (rc := [(h0, .inr (5, [.ref ae, .ref al, .ref ap, .ref az, .ref ar, .int (zI np), .ref am, .int (zI th)])), (az, .inl (cI, 8, .inl (zA xz)))]) hP hR (isR := [0, 1]) rfl
  refine z_ro (ws := [(h0, .inr (5, [.ref ae, .ref al, .ref ap, .ref az, .ref ar, .int (zI np), .ref am, .int (zI th)]))]) (va_runV (As := [.int (zI i)]) (rest := []) CF (c_X6_waySet l D cI h0 ae al ap az ar am np th xz i (by omega) (by omega) (by omega) H.size) (cwV 1 hts gX6_transforms_X6_waySet rfl rfl rfl (by decide +kernel) ⟨Nat.le_of_ble_eq_true rfl, Nat.le_of_ble_eq_true rfl⟩) (z_preV (va_recv hK hP (ci := 5) (q0 := 0) rfl rfl) z_nilP (z_nilD (A := A)) hRc z_noX (hK.sub (tys' := [(cI, .int)]) [0] rfl)) rfl rfl hl.1 rfl (lv_room (Nat.le_of_ble_eq_true rfl)) dX6_transforms_33 ⟨Nat.le_of_ble_eq_true rfl, Nat.le_of_ble_eq_true rfl⟩) hP hS hA (cells' := 0) (slots' := 0) rfl rfl (fun H locs hP hS => ?_)
  have hR := hR0.at hS
  refine lv_iload_n hx hb dX6_transforms_36 rfl (lv_at hl 3 rfl) ?_
  refine z_ishr hx hb dX6_transforms_37 (by have := wset_rng (xz i); omega) (by omega) ?_
  refine z_iconst hx hb dX6_transforms_38 ?_
  refine z_iand1 hx hb dX6_transforms_39 (by have h0 := wset_rng (xz i); exact z_div (by omega) (Int.pow_pos (by decide)) (by omega)) ?_
  refine z_iconst hx hb dX6_transforms_40 ?_
  refine z_icmp_ne (tgt := 48) hx hb dX6_transforms_41 (by decide) (by omega) (fun c_41 => ?_) (fun c_41 => absurd c_41 (by exact hw2))
  refine z_iconst hx hb dX6_transforms_48 ?_
  refine lv_istore (lv' := [(5, .int (zI 0)), (0, .ref h0), (1, .int (zI i)), (2, .int (zI r)), (3, .int (zI w)), (4, .int (zI 1))]) hx hb dX6_transforms_49 hl (by decide) rfl (fun ls hl => ?_)
  have hl := lv_sub hl [1, 2, 3, 4, 5, 0] rfl
  have hl : lv_has ls 10 [(0, .ref h0), (1, .int (zI i)), (2, .int (zI r)), (3, .int (zI w)), (4, .int (zI 1)), (5, .int (zI 0))] := hl
  refine lv_aload_n hx hb dX6_transforms_51 rfl (lv_at hl 0 rfl) ?_
  refine lv_iload hx hb dX6_transforms_52 (lv_at hl 5 rfl) ?_
  refine z_if_ne (tgt := 61) hx hb dX6_transforms_54 (by decide) (by omega) (fun c_54 => absurd c_54 (by omega)) (fun c_54 => ?_)
  refine z_iconst hx hb dX6_transforms_57 ?_
  refine lv_goto (tgt := 81) hx hb dX6_transforms_58 (by decide) ?_
  refine va_put (D := D) (ci := 5) (v := .int (zI 2)) (ty := .int) (C := RX6) (T := TX6) (N := 8) hx hb hts hi6 tyX6 tyX6_ok nmX6 hown hK hP hD hS 0 rfl rfl 7 (by decide) (hts (.fieldLink RX6 28 "ButterflyYardModel" "thrown" "I") (by decide +kernel)) (fun _ h9 => h9) rfl (by decide +kernel) rfl rfl (Nat.le_of_ble_eq_true rfl) dX6_transforms_81 (fun H locs hP hD hS => ?_)
  have hP : va_P D vwCl [(h0, .inr (5, [.ref ae, .ref al, .ref ap, .ref az, .ref ar, .int (zI np), .ref am, .int (zI 2)]))] H := hP
  have hD : va_D A [(h0, .inr (5, [.ref ae, .ref al, .ref ap, .ref az, .ref ar, .int (zI np), .ref am, .int (zI 2)]))] := hD
  have hR := hR0.at hS
  refine lv_aload_n hx hb dX6_transforms_84 rfl (lv_at hl 0 rfl) ?_
  refine va_get (D := D) (ci := 5) (C := RX6) (T := TX6) (N := 8) hx hb hts hi6 hown hK hP 0 rfl rfl 7 (by decide) (hts (.fieldLink RX6 28 "ButterflyYardModel" "thrown" "I") (by decide +kernel)) (fun _ h9 => h9) rfl dX6_transforms_85 ?_
  refine z_if_eq (tgt := 93) hx hb dX6_transforms_88 (by decide) (by omega) (fun c_88 => absurd c_88 (by omega)) (fun c_88 => ?_)
  refine z_iconst hx hb dX6_transforms_91 ?_
  exact z_iret hx hb hr hlocks rfl () (rfl) (trivial) hP hD hS dX6_transforms_92

set_option maxHeartbeats 4000000 in
set_option maxRecDepth 100000 in
theorem c_X6_transforms_3b (l : Launch) (D : va_G) (cI : ClassId) (h0 : Nat) (ae : Nat) (al : Nat) (ap : Nat) (az : Nat) (ar : Nat) (am : Nat) (np : Int) (th : Int) (xl : Int → Int) (xz : Int → Int) (i : Int) (r : Int) (w : Int) (ha_i : -2147483648 ≤ i ∧ i ≤ 2147483647) (ha_r : -2147483648 ≤ r ∧ r ≤ 2147483647) (ha_w : -2147483648 ≤ w ∧ w ≤ 2147483647) (hnp_ : 0 ≤ np ∧ np ≤ 8) (hi0 : 0 ≤ i ∧ i < np) (hz_ : 1 ≤ xz i ∧ xz i ≤ 64) (hr_r : 0 ≤ r ∧ r < 4) (hxl_r : 0 ≤ xl r ∧ xl r ≤ 64) (hw_ : 0 ≤ w ∧ w ≤ 4) (hw2 : wset (xz i) / 2 ^ w.toNat % 2 = 1) (hlz : xz i < xl r) : zC l yX6_transforms wsX6_transforms ({ frames := 2, cells := 0, slots := 0, locals := 46 } : Room) D [(cI, .int)] [(h0, .inr (5, [.ref ae, .ref al, .ref ap, .ref az, .ref ar, .int (zI np), .ref am, .int (zI th)]))] [(al, .inl (cI, 4, .inl (zA xl))), (az, .inl (cI, 8, .inl (zA xz)))] [.ref h0, .int (zI i), .int (zI r), .int (zI w), .int (zI 1)] (S := Unit) (fun u => True) (fun u => some (.int (zI 0))) (fun u => [(h0, .inr (5, [.ref ae, .ref al, .ref ap, .ref az, .ref ar, .int (zI np), .ref am, .int (zI 3)]))]) := by
  refine z_start (cc := cX6_transforms) (maxL := 10) (ret := (some .int)) (own := RX6) (by decide) rfl rfl (Nat.le_of_ble_eq_true rfl) [(0, .ref h0), (1, .int (zI i)), (2, .int (zI r)), (3, .int (zI w)), (4, .int (zI 1))] rfl ?_
  intro pp ee s mm below meth cc A H ls hx hb hr hml hts hown hlocks hin hK hA hP hD hS hR0 hR hl
  have CF : CallFix pp mm cc cX6_transforms 10 s ([.ref h0, .int (zI i), .int (zI r), .int (zI w), .int (zI 1)] : List Value).toArray wsX6_transforms RX6 := ⟨hx, hb, hml, hown, hts⟩
  have hi6 : ∀ w ∈ wsX60, w ∈ wsX6_transforms := by decide +kernel
  refine lv_aload_n hx hb dX6_transforms_0 rfl (lv_at hl 0 rfl) ?_
  refine lv_iload_n hx hb dX6_transforms_1 rfl (lv_at hl 1 rfl) ?_
  have hRc := z_subR (ws := [(h0, .inr (5, [.ref ae, .ref al, .ref ap, .ref az, .ref ar, .int (zI np), .ref am, .int (zI th)]))]) (rs := [(al, .inl (cI, 4, .inl (zA xl))), (az, .inl (cI, 8, .inl (zA xz)))]) (rc := [(h0, .inr (5, [.ref ae, .ref al, .ref ap, .ref az, .ref ar, .int (zI np), .ref am, .int (zI th)]))]) hP hR (isR := [0]) rfl
  refine z_ro (ws := [(h0, .inr (5, [.ref ae, .ref al, .ref ap, .ref az, .ref ar, .int (zI np), .ref am, .int (zI th)]))]) (va_runV (As := [.int (zI i)]) (rest := []) CF (c_X6_isPlan l D h0 ae al ap az ar am np th i (by omega) (by omega) H.size) (cwV 1 hts gX6_transforms_X6_isPlan rfl rfl rfl (by decide +kernel) ⟨Nat.le_of_ble_eq_true rfl, Nat.le_of_ble_eq_true rfl⟩) (z_preV (va_recv hK hP (ci := 5) (q0 := 0) rfl rfl) z_nilP (z_nilD (A := A)) hRc z_noX (hK.sub (tys' := []) [] rfl)) rfl rfl hl.1 rfl (lv_room (Nat.le_of_ble_eq_true rfl)) dX6_transforms_2 ⟨Nat.le_of_ble_eq_true rfl, Nat.le_of_ble_eq_true rfl⟩) hP hS hA (cells' := 0) (slots' := 0) rfl rfl (fun H locs hP hS => ?_)
  have hR := hR0.at hS
  refine z_ifB_eq (tgt := 15) hx hb dX6_transforms_5 (by decide) (fun c_5 => absurd c_5 (by omega)) (fun c_5 => ?_)
  refine lv_iload_n hx hb dX6_transforms_8 rfl (lv_at hl 2 rfl) ?_
  have hRc : va_P D vwCl [] H := z_nilP
  refine z_ro (ws := [(h0, .inr (5, [.ref ae, .ref al, .ref ap, .ref az, .ref ar, .int (zI np), .ref am, .int (zI th)]))]) (va_runS (As := [.int (zI r)]) (rest := []) CF (c_X6_isRow l D r (by omega) H.size) (va_cwS 1 hts gX6_transforms_X6_isRow rfl rfl rfl (by decide +kernel) ⟨Nat.le_of_ble_eq_true rfl, Nat.le_of_ble_eq_true rfl⟩) (z_preS z_nilP (z_nilD (A := A)) hRc z_noX (hK.sub (tys' := []) [] rfl)) rfl rfl hl.1 rfl (lv_room (Nat.le_of_ble_eq_true rfl)) dX6_transforms_9 ⟨Nat.le_of_ble_eq_true rfl, Nat.le_of_ble_eq_true rfl⟩) hP hS hA (cells' := 0) (slots' := 0) rfl rfl (fun H locs hP hS => ?_)
  have hR := hR0.at hS
  refine z_ifB_ne (tgt := 22) hx hb dX6_transforms_12 (by decide) (fun c_12 => ?_) (fun c_12 => absurd c_12 (by omega))
  refine lv_iload_n hx hb dX6_transforms_22 rfl (lv_at hl 3 rfl) ?_
  refine z_if_lt (tgt := 48) hx hb dX6_transforms_23 (by decide) (by omega) (fun c_23 => absurd c_23 (by omega)) (fun c_23 => ?_)
  refine lv_iload_n hx hb dX6_transforms_26 rfl (lv_at hl 3 rfl) ?_
  refine z_iconst hx hb dX6_transforms_27 ?_
  refine z_icmp_gt (tgt := 48) hx hb dX6_transforms_28 (by decide) (by omega) (fun c_28 => absurd c_28 (by omega)) (fun c_28 => ?_)
  refine lv_aload_n hx hb dX6_transforms_31 rfl (lv_at hl 0 rfl) ?_
  refine lv_iload_n hx hb dX6_transforms_32 rfl (lv_at hl 1 rfl) ?_
  have hRc := z_subR (ws := [(h0, .inr (5, [.ref ae, .ref al, .ref ap, .ref az, .ref ar, .int (zI np), .ref am, .int (zI th)]))]) (rs := [(al, .inl (cI, 4, .inl (zA xl))), (az, .inl (cI, 8, .inl (zA xz)))]) (rc := [(h0, .inr (5, [.ref ae, .ref al, .ref ap, .ref az, .ref ar, .int (zI np), .ref am, .int (zI th)])), (az, .inl (cI, 8, .inl (zA xz)))]) hP hR (isR := [0, 2]) rfl
  refine z_ro (ws := [(h0, .inr (5, [.ref ae, .ref al, .ref ap, .ref az, .ref ar, .int (zI np), .ref am, .int (zI th)]))]) (va_runV (As := [.int (zI i)]) (rest := []) CF (c_X6_waySet l D cI h0 ae al ap az ar am np th xz i (by omega) (by omega) (by omega) H.size) (cwV 1 hts gX6_transforms_X6_waySet rfl rfl rfl (by decide +kernel) ⟨Nat.le_of_ble_eq_true rfl, Nat.le_of_ble_eq_true rfl⟩) (z_preV (va_recv hK hP (ci := 5) (q0 := 0) rfl rfl) z_nilP (z_nilD (A := A)) hRc z_noX (hK.sub (tys' := [(cI, .int)]) [0] rfl)) rfl rfl hl.1 rfl (lv_room (Nat.le_of_ble_eq_true rfl)) dX6_transforms_33 ⟨Nat.le_of_ble_eq_true rfl, Nat.le_of_ble_eq_true rfl⟩) hP hS hA (cells' := 0) (slots' := 0) rfl rfl (fun H locs hP hS => ?_)
  have hR := hR0.at hS
  refine lv_iload_n hx hb dX6_transforms_36 rfl (lv_at hl 3 rfl) ?_
  refine z_ishr hx hb dX6_transforms_37 (by have := wset_rng (xz i); omega) (by omega) ?_
  refine z_iconst hx hb dX6_transforms_38 ?_
  refine z_iand1 hx hb dX6_transforms_39 (by have h0 := wset_rng (xz i); exact z_div (by omega) (Int.pow_pos (by decide)) (by omega)) ?_
  refine z_iconst hx hb dX6_transforms_40 ?_
  refine z_icmp_ne (tgt := 48) hx hb dX6_transforms_41 (by decide) (by omega) (fun c_41 => absurd c_41 (by exact not_not_intro hw2)) (fun c_41 => ?_)
  refine z_iconst hx hb dX6_transforms_44 ?_
  refine lv_goto (tgt := 49) hx hb dX6_transforms_45 (by decide) ?_
  refine lv_istore (lv' := [(5, .int (zI 1)), (0, .ref h0), (1, .int (zI i)), (2, .int (zI r)), (3, .int (zI w)), (4, .int (zI 1))]) hx hb dX6_transforms_49 hl (by decide) rfl (fun ls hl => ?_)
  have hl := lv_sub hl [1, 2, 3, 4, 5, 0] rfl
  have hl : lv_has ls 10 [(0, .ref h0), (1, .int (zI i)), (2, .int (zI r)), (3, .int (zI w)), (4, .int (zI 1)), (5, .int (zI 1))] := hl
  refine lv_aload_n hx hb dX6_transforms_51 rfl (lv_at hl 0 rfl) ?_
  refine lv_iload hx hb dX6_transforms_52 (lv_at hl 5 rfl) ?_
  refine z_if_ne (tgt := 61) hx hb dX6_transforms_54 (by decide) (by omega) (fun c_54 => ?_) (fun c_54 => absurd c_54 (by omega))
  refine lv_aload_n hx hb dX6_transforms_61 rfl (lv_at hl 0 rfl) ?_
  refine va_get (D := D) (ci := 5) (C := RX6) (T := TX6) (N := 8) hx hb hts hi6 hown hK hP 0 rfl rfl 1 (by decide) (hts (.fieldLink RX6 13 "ButterflyYardModel" "lengths" "[I") (by decide +kernel)) (fun _ h9 => h9) rfl dX6_transforms_62 ?_
  refine lv_iload_n hx hb dX6_transforms_65 rfl (lv_at hl 2 rfl) ?_
  refine z_iald (cA := cI) (n := 4) (g := xl) hx hb hK hR 0 0 rfl rfl rfl (by omega) dX6_transforms_66 ?_
  refine lv_aload_n hx hb dX6_transforms_67 rfl (lv_at hl 0 rfl) ?_
  refine va_get (D := D) (ci := 5) (C := RX6) (T := TX6) (N := 8) hx hb hts hi6 hown hK hP 0 rfl rfl 3 (by decide) (hts (.fieldLink RX6 19 "ButterflyYardModel" "sizes" "[I") (by decide +kernel)) (fun _ h9 => h9) rfl dX6_transforms_68 ?_
  refine lv_iload_n hx hb dX6_transforms_71 rfl (lv_at hl 1 rfl) ?_
  refine z_iald (cA := cI) (n := 8) (g := xz) hx hb hK hR 1 0 rfl rfl rfl (by omega) dX6_transforms_72 ?_
  refine z_icmp_le (tgt := 80) hx hb dX6_transforms_73 (by decide) (by omega) (fun c_73 => absurd c_73 (by omega)) (fun c_73 => ?_)
  refine z_iconst hx hb dX6_transforms_76 ?_
  refine lv_goto (tgt := 81) hx hb dX6_transforms_77 (by decide) ?_
  refine va_put (D := D) (ci := 5) (v := .int (zI 3)) (ty := .int) (C := RX6) (T := TX6) (N := 8) hx hb hts hi6 tyX6 tyX6_ok nmX6 hown hK hP hD hS 0 rfl rfl 7 (by decide) (hts (.fieldLink RX6 28 "ButterflyYardModel" "thrown" "I") (by decide +kernel)) (fun _ h9 => h9) rfl (by decide +kernel) rfl rfl (Nat.le_of_ble_eq_true rfl) dX6_transforms_81 (fun H locs hP hD hS => ?_)
  have hP : va_P D vwCl [(h0, .inr (5, [.ref ae, .ref al, .ref ap, .ref az, .ref ar, .int (zI np), .ref am, .int (zI 3)]))] H := hP
  have hD : va_D A [(h0, .inr (5, [.ref ae, .ref al, .ref ap, .ref az, .ref ar, .int (zI np), .ref am, .int (zI 3)]))] := hD
  have hR := hR0.at hS
  refine lv_aload_n hx hb dX6_transforms_84 rfl (lv_at hl 0 rfl) ?_
  refine va_get (D := D) (ci := 5) (C := RX6) (T := TX6) (N := 8) hx hb hts hi6 hown hK hP 0 rfl rfl 7 (by decide) (hts (.fieldLink RX6 28 "ButterflyYardModel" "thrown" "I") (by decide +kernel)) (fun _ h9 => h9) rfl dX6_transforms_85 ?_
  refine z_if_eq (tgt := 93) hx hb dX6_transforms_88 (by decide) (by omega) (fun c_88 => absurd c_88 (by omega)) (fun c_88 => ?_)
  refine z_iconst hx hb dX6_transforms_91 ?_
  exact z_iret hx hb hr hlocks rfl () (rfl) (trivial) hP hD hS dX6_transforms_92

set_option maxHeartbeats 4000000 in
set_option maxRecDepth 100000 in
theorem c_X6_transforms_okb (l : Launch) (D : va_G) (cI : ClassId) (h0 : Nat) (ae : Nat) (al : Nat) (ap : Nat) (az : Nat) (ar : Nat) (am : Nat) (np : Int) (th : Int) (xe : Int → Int) (xl : Int → Int) (xm : Int → Int) (xp : Int → Int) (xz : Int → Int) (xr : Int → Int) (i : Int) (r : Int) (w : Int) (ha_i : -2147483648 ≤ i ∧ i ≤ 2147483647) (ha_r : -2147483648 ≤ r ∧ r ≤ 2147483647) (ha_w : -2147483648 ≤ w ∧ w ≤ 2147483647) (hnp_ : 0 ≤ np ∧ np ≤ 8) (hi0 : 0 ≤ i ∧ i < np) (hz_ : 1 ≤ xz i ∧ xz i ≤ 64) (hp_ : 2 ≤ xp i ∧ xp i ≤ 10000) (hrt : 0 ≤ xr i ∧ xr i ≤ 10000) (hr_r : 0 ≤ r ∧ r < 4) (hxl_r : 0 ≤ xl r ∧ xl r ≤ 64) (hxe : ∀ k, 0 ≤ k → k < 256 → -1000000 ≤ xe k ∧ xe k ≤ 1000000) (hw_ : 0 ≤ w ∧ w ≤ 4) (hw2 : wset (xz i) / 2 ^ w.toNat % 2 = 1) (hlz : xl r ≤ xz i) : zC l yX6_transforms wsX6_transforms ({ frames := 3, cells := 0, slots := 0, locals := 74 } : Room) D [(cI, .int)] [(h0, .inr (5, [.ref ae, .ref al, .ref ap, .ref az, .ref ar, .int (zI np), .ref am, .int (zI th)])), (ae, .inl (cI, 256, .inl (zA xe))), (al, .inl (cI, 4, .inl (zA xl))), (am, .inl (cI, 64, .inl (zA xm)))] [(ap, .inl (cI, 8, .inl (zA xp))), (az, .inl (cI, 8, .inl (zA xz))), (ar, .inl (cI, 8, .inl (zA xr)))] [.ref h0, .int (zI i), .int (zI r), .int (zI w), .int (zI 1)] (S := (Int → Int) × (Int → Int)) (fun (xe2, xm2) => (∀ k, 0 ≤ k → k < xz i → xe2 (64 * r + k) = sumR (xp i) (xz i) (pwm (xr i) (xp i - 2) (xp i)) (fun j => rowAt (eRow xe r) (xl r) j % xp i) k * pwm (xz i) (xp i - 2) (xp i) % xp i) ∧ (∀ x, x < 64 * r ∨ 64 * r + xz i ≤ x → xe2 x = xe x)) (fun (xe2, xm2) => some (.int (zI (sumR (xp i) (xz i) (pwm (xr i) (xp i - 2) (xp i)) (fun j => rowAt (eRow xe r) (xl r) j % xp i) 0 * pwm (xz i) (xp i - 2) (xp i) % xp i)))) (fun (xe2, xm2) => [(h0, .inr (5, [.ref ae, .ref al, .ref ap, .ref az, .ref ar, .int (zI np), .ref am, .int (zI 0)])), (ae, .inl (cI, 256, .inl (zA xe2))), (al, .inl (cI, 4, .inl (zA (zU xl r (xz i))))), (am, .inl (cI, 64, .inl (zA xm2)))]) := by
  have hfc := pwm_rng (b := xz i) (e := xp i - 2) (n := xp i) (by omega)
  have hrt2 := pwm_rng (b := xr i) (e := xp i - 2) (n := xp i) (by omega)
  refine z_start (cc := cX6_transforms) (maxL := 10) (ret := (some .int)) (own := RX6) (by decide) rfl rfl (Nat.le_of_ble_eq_true rfl) [(0, .ref h0), (1, .int (zI i)), (2, .int (zI r)), (3, .int (zI w)), (4, .int (zI 1))] rfl ?_
  intro pp ee s mm below meth cc A H ls hx hb hr hml hts hown hlocks hin hK hA hP hD hS hR0 hR hl
  have CF : CallFix pp mm cc cX6_transforms 10 s ([.ref h0, .int (zI i), .int (zI r), .int (zI w), .int (zI 1)] : List Value).toArray wsX6_transforms RX6 := ⟨hx, hb, hml, hown, hts⟩
  have hi6 : ∀ w ∈ wsX60, w ∈ wsX6_transforms := by decide +kernel
  refine lv_aload_n hx hb dX6_transforms_0 rfl (lv_at hl 0 rfl) ?_
  refine lv_iload_n hx hb dX6_transforms_1 rfl (lv_at hl 1 rfl) ?_
  have hRc := z_subR (ws := [(h0, .inr (5, [.ref ae, .ref al, .ref ap, .ref az, .ref ar, .int (zI np), .ref am, .int (zI th)])), (ae, .inl (cI, 256, .inl (zA xe))), (al, .inl (cI, 4, .inl (zA xl))), (am, .inl (cI, 64, .inl (zA xm)))]) (rs := [(ap, .inl (cI, 8, .inl (zA xp))), (az, .inl (cI, 8, .inl (zA xz))), (ar, .inl (cI, 8, .inl (zA xr)))]) (rc := [(h0, .inr (5, [.ref ae, .ref al, .ref ap, .ref az, .ref ar, .int (zI np), .ref am, .int (zI th)]))]) hP hR (isR := [0]) rfl
  refine z_ro (ws := [(h0, .inr (5, [.ref ae, .ref al, .ref ap, .ref az, .ref ar, .int (zI np), .ref am, .int (zI th)])), (ae, .inl (cI, 256, .inl (zA xe))), (al, .inl (cI, 4, .inl (zA xl))), (am, .inl (cI, 64, .inl (zA xm)))]) (va_runV (As := [.int (zI i)]) (rest := []) CF (c_X6_isPlan l D h0 ae al ap az ar am np th i (by omega) (by omega) H.size) (cwV 1 hts gX6_transforms_X6_isPlan rfl rfl rfl (by decide +kernel) ⟨Nat.le_of_ble_eq_true rfl, Nat.le_of_ble_eq_true rfl⟩) (z_preV (va_recv hK hP (ci := 5) (q0 := 0) rfl rfl) z_nilP (z_nilD (A := A)) hRc z_noX (hK.sub (tys' := []) [] rfl)) rfl rfl hl.1 rfl (lv_room (Nat.le_of_ble_eq_true rfl)) dX6_transforms_2 ⟨Nat.le_of_ble_eq_true rfl, Nat.le_of_ble_eq_true rfl⟩) hP hS hA (cells' := 0) (slots' := 0) rfl rfl (fun H locs hP hS => ?_)
  have hR := hR0.at hS
  refine z_ifB_eq (tgt := 15) hx hb dX6_transforms_5 (by decide) (fun c_5 => absurd c_5 (by omega)) (fun c_5 => ?_)
  refine lv_iload_n hx hb dX6_transforms_8 rfl (lv_at hl 2 rfl) ?_
  have hRc : va_P D vwCl [] H := z_nilP
  refine z_ro (ws := [(h0, .inr (5, [.ref ae, .ref al, .ref ap, .ref az, .ref ar, .int (zI np), .ref am, .int (zI th)])), (ae, .inl (cI, 256, .inl (zA xe))), (al, .inl (cI, 4, .inl (zA xl))), (am, .inl (cI, 64, .inl (zA xm)))]) (va_runS (As := [.int (zI r)]) (rest := []) CF (c_X6_isRow l D r (by omega) H.size) (va_cwS 1 hts gX6_transforms_X6_isRow rfl rfl rfl (by decide +kernel) ⟨Nat.le_of_ble_eq_true rfl, Nat.le_of_ble_eq_true rfl⟩) (z_preS z_nilP (z_nilD (A := A)) hRc z_noX (hK.sub (tys' := []) [] rfl)) rfl rfl hl.1 rfl (lv_room (Nat.le_of_ble_eq_true rfl)) dX6_transforms_9 ⟨Nat.le_of_ble_eq_true rfl, Nat.le_of_ble_eq_true rfl⟩) hP hS hA (cells' := 0) (slots' := 0) rfl rfl (fun H locs hP hS => ?_)
  have hR := hR0.at hS
  refine z_ifB_ne (tgt := 22) hx hb dX6_transforms_12 (by decide) (fun c_12 => ?_) (fun c_12 => absurd c_12 (by omega))
  refine lv_iload_n hx hb dX6_transforms_22 rfl (lv_at hl 3 rfl) ?_
  refine z_if_lt (tgt := 48) hx hb dX6_transforms_23 (by decide) (by omega) (fun c_23 => absurd c_23 (by omega)) (fun c_23 => ?_)
  refine lv_iload_n hx hb dX6_transforms_26 rfl (lv_at hl 3 rfl) ?_
  refine z_iconst hx hb dX6_transforms_27 ?_
  refine z_icmp_gt (tgt := 48) hx hb dX6_transforms_28 (by decide) (by omega) (fun c_28 => absurd c_28 (by omega)) (fun c_28 => ?_)
  refine lv_aload_n hx hb dX6_transforms_31 rfl (lv_at hl 0 rfl) ?_
  refine lv_iload_n hx hb dX6_transforms_32 rfl (lv_at hl 1 rfl) ?_
  have hRc := z_subR (ws := [(h0, .inr (5, [.ref ae, .ref al, .ref ap, .ref az, .ref ar, .int (zI np), .ref am, .int (zI th)])), (ae, .inl (cI, 256, .inl (zA xe))), (al, .inl (cI, 4, .inl (zA xl))), (am, .inl (cI, 64, .inl (zA xm)))]) (rs := [(ap, .inl (cI, 8, .inl (zA xp))), (az, .inl (cI, 8, .inl (zA xz))), (ar, .inl (cI, 8, .inl (zA xr)))]) (rc := [(h0, .inr (5, [.ref ae, .ref al, .ref ap, .ref az, .ref ar, .int (zI np), .ref am, .int (zI th)])), (az, .inl (cI, 8, .inl (zA xz)))]) hP hR (isR := [0, 5]) rfl
  refine z_ro (ws := [(h0, .inr (5, [.ref ae, .ref al, .ref ap, .ref az, .ref ar, .int (zI np), .ref am, .int (zI th)])), (ae, .inl (cI, 256, .inl (zA xe))), (al, .inl (cI, 4, .inl (zA xl))), (am, .inl (cI, 64, .inl (zA xm)))]) (va_runV (As := [.int (zI i)]) (rest := []) CF (c_X6_waySet l D cI h0 ae al ap az ar am np th xz i (by omega) (by omega) (by omega) H.size) (cwV 1 hts gX6_transforms_X6_waySet rfl rfl rfl (by decide +kernel) ⟨Nat.le_of_ble_eq_true rfl, Nat.le_of_ble_eq_true rfl⟩) (z_preV (va_recv hK hP (ci := 5) (q0 := 0) rfl rfl) z_nilP (z_nilD (A := A)) hRc z_noX (hK.sub (tys' := [(cI, .int)]) [0] rfl)) rfl rfl hl.1 rfl (lv_room (Nat.le_of_ble_eq_true rfl)) dX6_transforms_33 ⟨Nat.le_of_ble_eq_true rfl, Nat.le_of_ble_eq_true rfl⟩) hP hS hA (cells' := 0) (slots' := 0) rfl rfl (fun H locs hP hS => ?_)
  have hR := hR0.at hS
  refine lv_iload_n hx hb dX6_transforms_36 rfl (lv_at hl 3 rfl) ?_
  refine z_ishr hx hb dX6_transforms_37 (by have := wset_rng (xz i); omega) (by omega) ?_
  refine z_iconst hx hb dX6_transforms_38 ?_
  refine z_iand1 hx hb dX6_transforms_39 (by have h0 := wset_rng (xz i); exact z_div (by omega) (Int.pow_pos (by decide)) (by omega)) ?_
  refine z_iconst hx hb dX6_transforms_40 ?_
  refine z_icmp_ne (tgt := 48) hx hb dX6_transforms_41 (by decide) (by omega) (fun c_41 => absurd c_41 (by exact not_not_intro hw2)) (fun c_41 => ?_)
  refine z_iconst hx hb dX6_transforms_44 ?_
  refine lv_goto (tgt := 49) hx hb dX6_transforms_45 (by decide) ?_
  refine lv_istore (lv' := [(5, .int (zI 1)), (0, .ref h0), (1, .int (zI i)), (2, .int (zI r)), (3, .int (zI w)), (4, .int (zI 1))]) hx hb dX6_transforms_49 hl (by decide) rfl (fun ls hl => ?_)
  have hl := lv_sub hl [1, 2, 3, 4, 5, 0] rfl
  have hl : lv_has ls 10 [(0, .ref h0), (1, .int (zI i)), (2, .int (zI r)), (3, .int (zI w)), (4, .int (zI 1)), (5, .int (zI 1))] := hl
  refine lv_aload_n hx hb dX6_transforms_51 rfl (lv_at hl 0 rfl) ?_
  refine lv_iload hx hb dX6_transforms_52 (lv_at hl 5 rfl) ?_
  refine z_if_ne (tgt := 61) hx hb dX6_transforms_54 (by decide) (by omega) (fun c_54 => ?_) (fun c_54 => absurd c_54 (by omega))
  refine lv_aload_n hx hb dX6_transforms_61 rfl (lv_at hl 0 rfl) ?_
  refine va_get (D := D) (ci := 5) (C := RX6) (T := TX6) (N := 8) hx hb hts hi6 hown hK hP 0 rfl rfl 1 (by decide) (hts (.fieldLink RX6 13 "ButterflyYardModel" "lengths" "[I") (by decide +kernel)) (fun _ h9 => h9) rfl dX6_transforms_62 ?_
  refine lv_iload_n hx hb dX6_transforms_65 rfl (lv_at hl 2 rfl) ?_
  refine z_iald (cA := cI) (n := 4) (g := xl) hx hb hK hP 2 0 rfl rfl rfl (by omega) dX6_transforms_66 ?_
  refine lv_aload_n hx hb dX6_transforms_67 rfl (lv_at hl 0 rfl) ?_
  refine va_get (D := D) (ci := 5) (C := RX6) (T := TX6) (N := 8) hx hb hts hi6 hown hK hP 0 rfl rfl 3 (by decide) (hts (.fieldLink RX6 19 "ButterflyYardModel" "sizes" "[I") (by decide +kernel)) (fun _ h9 => h9) rfl dX6_transforms_68 ?_
  refine lv_iload_n hx hb dX6_transforms_71 rfl (lv_at hl 1 rfl) ?_
  refine z_iald (cA := cI) (n := 8) (g := xz) hx hb hK hR 1 0 rfl rfl rfl (by omega) dX6_transforms_72 ?_
  refine z_icmp_le (tgt := 80) hx hb dX6_transforms_73 (by decide) (by omega) (fun c_73 => ?_) (fun c_73 => absurd c_73 (by omega))
  refine z_iconst hx hb dX6_transforms_80 ?_
  refine va_put (D := D) (ci := 5) (v := .int (zI 0)) (ty := .int) (C := RX6) (T := TX6) (N := 8) hx hb hts hi6 tyX6 tyX6_ok nmX6 hown hK hP hD hS 0 rfl rfl 7 (by decide) (hts (.fieldLink RX6 28 "ButterflyYardModel" "thrown" "I") (by decide +kernel)) (fun _ h9 => h9) rfl (by decide +kernel) rfl rfl (Nat.le_of_ble_eq_true rfl) dX6_transforms_81 (fun H locs hP hD hS => ?_)
  have hP : va_P D vwCl [(h0, .inr (5, [.ref ae, .ref al, .ref ap, .ref az, .ref ar, .int (zI np), .ref am, .int (zI 0)])), (ae, .inl (cI, 256, .inl (zA xe))), (al, .inl (cI, 4, .inl (zA xl))), (am, .inl (cI, 64, .inl (zA xm)))] H := hP
  have hD : va_D A [(h0, .inr (5, [.ref ae, .ref al, .ref ap, .ref az, .ref ar, .int (zI np), .ref am, .int (zI 0)])), (ae, .inl (cI, 256, .inl (zA xe))), (al, .inl (cI, 4, .inl (zA xl))), (am, .inl (cI, 64, .inl (zA xm)))] := hD
  have hR := hR0.at hS
  refine lv_aload_n hx hb dX6_transforms_84 rfl (lv_at hl 0 rfl) ?_
  refine va_get (D := D) (ci := 5) (C := RX6) (T := TX6) (N := 8) hx hb hts hi6 hown hK hP 0 rfl rfl 7 (by decide) (hts (.fieldLink RX6 28 "ButterflyYardModel" "thrown" "I") (by decide +kernel)) (fun _ h9 => h9) rfl dX6_transforms_85 ?_
  refine z_if_eq (tgt := 93) hx hb dX6_transforms_88 (by decide) (by omega) (fun c_88 => ?_) (fun c_88 => absurd c_88 (by omega))
  refine lv_aload_n hx hb dX6_transforms_93 rfl (lv_at hl 0 rfl) ?_
  refine va_get (D := D) (ci := 5) (C := RX6) (T := TX6) (N := 8) hx hb hts hi6 hown hK hP 0 rfl rfl 2 (by decide) (hts (.fieldLink RX6 16 "ButterflyYardModel" "primes" "[I") (by decide +kernel)) (fun _ h9 => h9) rfl dX6_transforms_94 ?_
  refine lv_iload_n hx hb dX6_transforms_97 rfl (lv_at hl 1 rfl) ?_
  refine z_iald (cA := cI) (n := 8) (g := xp) hx hb hK hR 0 0 rfl rfl rfl (by omega) dX6_transforms_98 ?_
  refine lv_istore (lv' := [(6, .int (zI (xp i))), (0, .ref h0), (1, .int (zI i)), (2, .int (zI r)), (3, .int (zI w)), (4, .int (zI 1)), (5, .int (zI 1))]) hx hb dX6_transforms_99 hl (by decide) rfl (fun ls hl => ?_)
  have hl := lv_sub hl [1, 2, 3, 4, 5, 6, 0] rfl
  have hl : lv_has ls 10 [(0, .ref h0), (1, .int (zI i)), (2, .int (zI r)), (3, .int (zI w)), (4, .int (zI 1)), (5, .int (zI 1)), (6, .int (zI (xp i)))] := hl
  refine lv_iload hx hb dX6_transforms_101 (lv_at hl 4 rfl) ?_
  refine z_if_eq (tgt := 120) hx hb dX6_transforms_103 (by decide) (by omega) (fun c_103 => absurd c_103 (by omega)) (fun c_103 => ?_)
  refine lv_aload_n hx hb dX6_transforms_106 rfl (lv_at hl 0 rfl) ?_
  refine va_get (D := D) (ci := 5) (C := RX6) (T := TX6) (N := 8) hx hb hts hi6 hown hK hP 0 rfl rfl 4 (by decide) (hts (.fieldLink RX6 22 "ButterflyYardModel" "roots" "[I") (by decide +kernel)) (fun _ h9 => h9) rfl dX6_transforms_107 ?_
  refine lv_iload_n hx hb dX6_transforms_110 rfl (lv_at hl 1 rfl) ?_
  refine z_iald (cA := cI) (n := 8) (g := xr) hx hb hK hR 2 0 rfl rfl rfl (by omega) dX6_transforms_111 ?_
  refine lv_iload hx hb dX6_transforms_112 (lv_at hl 6 rfl) ?_
  have hRc : va_P D vwCl [] H := z_nilP
  refine z_ro (ws := [(h0, .inr (5, [.ref ae, .ref al, .ref ap, .ref az, .ref ar, .int (zI np), .ref am, .int (zI 0)])), (ae, .inl (cI, 256, .inl (zA xe))), (al, .inl (cI, 4, .inl (zA xl))), (am, .inl (cI, 64, .inl (zA xm)))]) (va_runS (As := [.int (zI (xr i)), .int (zI (xp i))]) (rest := []) CF (c_X6_inverse l D (xr i) (xp i) (by omega) (by omega) H.size) (va_cwS 2 hts gX6_transforms_X6_inverse rfl rfl rfl (by decide +kernel) ⟨Nat.le_of_ble_eq_true rfl, Nat.le_of_ble_eq_true rfl⟩) (z_preS z_nilP (z_nilD (A := A)) hRc z_noX (hK.sub (tys' := []) [] rfl)) rfl rfl hl.1 rfl (lv_room (Nat.le_of_ble_eq_true rfl)) dX6_transforms_114 ⟨Nat.le_of_ble_eq_true rfl, Nat.le_of_ble_eq_true rfl⟩) hP hS hA (cells' := 0) (slots' := 0) rfl rfl (fun H locs hP hS => ?_)
  have hR := hR0.at hS
  refine lv_goto (tgt := 126) hx hb dX6_transforms_117 (by decide) ?_
  refine lv_istore (lv' := [(7, .int (zI (pwm (xr i) ((xp i) - 2) (xp i)))), (0, .ref h0), (1, .int (zI i)), (2, .int (zI r)), (3, .int (zI w)), (4, .int (zI 1)), (5, .int (zI 1)), (6, .int (zI (xp i)))]) hx hb dX6_transforms_126 hl (by decide) rfl (fun ls hl => ?_)
  have hl := lv_sub hl [1, 2, 3, 4, 5, 6, 7, 0] rfl
  have hl : lv_has ls 10 [(0, .ref h0), (1, .int (zI i)), (2, .int (zI r)), (3, .int (zI w)), (4, .int (zI 1)), (5, .int (zI 1)), (6, .int (zI (xp i))), (7, .int (zI (pwm (xr i) ((xp i) - 2) (xp i))))] := hl
  refine lv_iload hx hb dX6_transforms_128 (lv_at hl 4 rfl) ?_
  refine z_if_eq (tgt := 147) hx hb dX6_transforms_130 (by decide) (by omega) (fun c_130 => absurd c_130 (by omega)) (fun c_130 => ?_)
  refine lv_aload_n hx hb dX6_transforms_133 rfl (lv_at hl 0 rfl) ?_
  refine va_get (D := D) (ci := 5) (C := RX6) (T := TX6) (N := 8) hx hb hts hi6 hown hK hP 0 rfl rfl 3 (by decide) (hts (.fieldLink RX6 19 "ButterflyYardModel" "sizes" "[I") (by decide +kernel)) (fun _ h9 => h9) rfl dX6_transforms_134 ?_
  refine lv_iload_n hx hb dX6_transforms_137 rfl (lv_at hl 1 rfl) ?_
  refine z_iald (cA := cI) (n := 8) (g := xz) hx hb hK hR 1 0 rfl rfl rfl (by omega) dX6_transforms_138 ?_
  refine lv_iload hx hb dX6_transforms_139 (lv_at hl 6 rfl) ?_
  have hRc : va_P D vwCl [] H := z_nilP
  refine z_ro (ws := [(h0, .inr (5, [.ref ae, .ref al, .ref ap, .ref az, .ref ar, .int (zI np), .ref am, .int (zI 0)])), (ae, .inl (cI, 256, .inl (zA xe))), (al, .inl (cI, 4, .inl (zA xl))), (am, .inl (cI, 64, .inl (zA xm)))]) (va_runS (As := [.int (zI (xz i)), .int (zI (xp i))]) (rest := []) CF (c_X6_inverse l D (xz i) (xp i) (by omega) (by omega) H.size) (va_cwS 2 hts gX6_transforms_X6_inverse rfl rfl rfl (by decide +kernel) ⟨Nat.le_of_ble_eq_true rfl, Nat.le_of_ble_eq_true rfl⟩) (z_preS z_nilP (z_nilD (A := A)) hRc z_noX (hK.sub (tys' := []) [] rfl)) rfl rfl hl.1 rfl (lv_room (Nat.le_of_ble_eq_true rfl)) dX6_transforms_141 ⟨Nat.le_of_ble_eq_true rfl, Nat.le_of_ble_eq_true rfl⟩) hP hS hA (cells' := 0) (slots' := 0) rfl rfl (fun H locs hP hS => ?_)
  have hR := hR0.at hS
  refine lv_goto (tgt := 148) hx hb dX6_transforms_144 (by decide) ?_
  refine lv_istore (lv' := [(8, .int (zI (pwm (xz i) ((xp i) - 2) (xp i)))), (0, .ref h0), (1, .int (zI i)), (2, .int (zI r)), (3, .int (zI w)), (4, .int (zI 1)), (5, .int (zI 1)), (6, .int (zI (xp i))), (7, .int (zI (pwm (xr i) ((xp i) - 2) (xp i))))]) hx hb dX6_transforms_148 hl (by decide) rfl (fun ls hl => ?_)
  have hl := lv_sub hl [1, 2, 3, 4, 5, 6, 7, 8, 0] rfl
  have hl : lv_has ls 10 [(0, .ref h0), (1, .int (zI i)), (2, .int (zI r)), (3, .int (zI w)), (4, .int (zI 1)), (5, .int (zI 1)), (6, .int (zI (xp i))), (7, .int (zI (pwm (xr i) ((xp i) - 2) (xp i)))), (8, .int (zI (pwm (xz i) ((xp i) - 2) (xp i))))] := hl
  refine z_iconst hx hb dX6_transforms_150 ?_
  refine lv_istore (lv' := [(9, .int (zI 0)), (0, .ref h0), (1, .int (zI i)), (2, .int (zI r)), (3, .int (zI w)), (4, .int (zI 1)), (5, .int (zI 1)), (6, .int (zI (xp i))), (7, .int (zI (pwm (xr i) ((xp i) - 2) (xp i)))), (8, .int (zI (pwm (xz i) ((xp i) - 2) (xp i))))]) hx hb dX6_transforms_151 hl (by decide) rfl (fun ls hl => ?_)
  have hl := lv_sub hl [1, 2, 3, 4, 5, 6, 7, 8, 9, 0] rfl
  have hl : lv_has ls 10 [(0, .ref h0), (1, .int (zI i)), (2, .int (zI r)), (3, .int (zI w)), (4, .int (zI 1)), (5, .int (zI 1)), (6, .int (zI (xp i))), (7, .int (zI (pwm (xr i) ((xp i) - 2) (xp i)))), (8, .int (zI (pwm (xz i) ((xp i) - 2) (xp i)))), (9, .int (zI 0))] := hl
  refine z_loop (σ := Int × (Int → Int)) (fun (k, xm2) => (xz i - k).toNat) (fun (k, xm2) H locs ls => (0 ≤ k ∧ k ≤ xz i) ∧ (∀ y, 0 ≤ y → y < k → xm2 y = sumR (xp i) (xz i) (pwm (xr i) (xp i - 2) (xp i)) (fun j => rowAt (eRow xe r) (xl r) j % xp i) y * pwm (xz i) (xp i - 2) (xp i) % xp i) ∧ va_P D vwCl [(h0, .inr (5, [.ref ae, .ref al, .ref ap, .ref az, .ref ar, .int (zI np), .ref am, .int (zI 0)])), (ae, .inl (cI, 256, .inl (zA xe))), (al, .inl (cI, 4, .inl (zA xl))), (am, .inl (cI, 64, .inl (zA xm2)))] H ∧ va_D A [(h0, .inr (5, [.ref ae, .ref al, .ref ap, .ref az, .ref ar, .int (zI np), .ref am, .int (zI 0)])), (ae, .inl (cI, 256, .inl (zA xe))), (al, .inl (cI, 4, .inl (zA xl))), (am, .inl (cI, 64, .inl (zA xm2)))] ∧ va_S A s.heap H locs ∧ lv_has ls 10 [(0, .ref h0), (1, .int (zI i)), (2, .int (zI r)), (3, .int (zI w)), (4, .int (zI 1)), (5, .int (zI 1)), (6, .int (zI (xp i))), (7, .int (zI (pwm (xr i) ((xp i) - 2) (xp i)))), (8, .int (zI (pwm (xz i) ((xp i) - 2) (xp i)))), (9, .int (zI k))]) (0, xm) ⟨(by omega), (fun k h1 h2 => absurd h2 (by omega)), hP, hD, hS, hl⟩ ?_
  intro ⟨k, xm2⟩ H locs ls hI ih_153
  obtain ⟨hk_, hm_, hP, hD, hS, hl⟩ := hI
  have hR := hR0.at hS
  refine lv_iload hx hb dX6_transforms_153 (lv_at hl 9 rfl) ?_
  refine lv_aload_n hx hb dX6_transforms_155 rfl (lv_at hl 0 rfl) ?_
  refine va_get (D := D) (ci := 5) (C := RX6) (T := TX6) (N := 8) hx hb hts hi6 hown hK hP 0 rfl rfl 3 (by decide) (hts (.fieldLink RX6 19 "ButterflyYardModel" "sizes" "[I") (by decide +kernel)) (fun _ h9 => h9) rfl dX6_transforms_156 ?_
  refine lv_iload_n hx hb dX6_transforms_159 rfl (lv_at hl 1 rfl) ?_
  refine z_iald (cA := cI) (n := 8) (g := xz) hx hb hK hR 1 0 rfl rfl rfl (by omega) dX6_transforms_160 ?_
  refine z_icmp_ge (tgt := 193) hx hb dX6_transforms_161 (by decide) (by omega) (fun c_161 => ?_) (fun c_161 => ?_)
  · refine lv_aload_n hx hb dX6_transforms_193 rfl (lv_at hl 0 rfl) ?_
    refine lv_iload_n hx hb dX6_transforms_194 rfl (lv_at hl 2 rfl) ?_
    refine lv_aload_n hx hb dX6_transforms_195 rfl (lv_at hl 0 rfl) ?_
    refine va_get (D := D) (ci := 5) (C := RX6) (T := TX6) (N := 8) hx hb hts hi6 hown hK hP 0 rfl rfl 3 (by decide) (hts (.fieldLink RX6 19 "ButterflyYardModel" "sizes" "[I") (by decide +kernel)) (fun _ h9 => h9) rfl dX6_transforms_196 ?_
    refine lv_iload_n hx hb dX6_transforms_199 rfl (lv_at hl 1 rfl) ?_
    refine z_iald (cA := cI) (n := 8) (g := xz) hx hb hK hR 1 0 rfl rfl rfl (by omega) dX6_transforms_200 ?_
    have hRc := z_subR (ws := [(h0, .inr (5, [.ref ae, .ref al, .ref ap, .ref az, .ref ar, .int (zI np), .ref am, .int (zI 0)])), (ae, .inl (cI, 256, .inl (zA xe))), (al, .inl (cI, 4, .inl (zA xl))), (am, .inl (cI, 64, .inl (zA xm2)))]) (rs := [(ap, .inl (cI, 8, .inl (zA xp))), (az, .inl (cI, 8, .inl (zA xz))), (ar, .inl (cI, 8, .inl (zA xr)))]) (rc := [(h0, .inr (5, [.ref ae, .ref al, .ref ap, .ref az, .ref ar, .int (zI np), .ref am, .int (zI 0)])), (am, .inl (cI, 64, .inl (zA xm2)))]) hP hR (isR := [0, 3]) rfl
    have hPc := hP.sub (ws' := [(ae, .inl (cI, 256, .inl (zA xe))), (al, .inl (cI, 4, .inl (zA xl)))]) [1, 2] rfl
    have hDc := hD.sub (ws' := [(ae, .inl (cI, 256, .inl (zA xe))), (al, .inl (cI, 4, .inl (zA xl)))]) [1, 2] (by decide) rfl
    refine z_mu (ws := [(h0, .inr (5, [.ref ae, .ref al, .ref ap, .ref az, .ref ar, .int (zI np), .ref am, .int (zI 0)])), (ae, .inl (cI, 256, .inl (zA xe))), (al, .inl (cI, 4, .inl (zA xl))), (am, .inl (cI, 64, .inl (zA xm2)))]) (wc := [(ae, .inl (cI, 256, .inl (zA xe))), (al, .inl (cI, 4, .inl (zA xl)))]) (wr := [(h0, .inr (5, [.ref ae, .ref al, .ref ap, .ref az, .ref ar, .int (zI np), .ref am, .int (zI 0)])), (am, .inl (cI, 64, .inl (zA xm2)))]) (va_runV (As := [.int (zI r), .int (zI (xz i))]) (rest := []) CF (c_X6_put l D cI h0 ae al ap az ar am np 0 xe xl xm2 r (xz i) (by omega) (by omega) H.size) (cwV 2 hts gX6_transforms_X6_put rfl rfl rfl (by decide +kernel) ⟨Nat.le_of_ble_eq_true rfl, Nat.le_of_ble_eq_true rfl⟩) (z_preV (va_recv hK hP (ci := 5) (q0 := 0) rfl rfl) hPc hDc hRc (z_dis (ws := [(h0, .inr (5, [.ref ae, .ref al, .ref ap, .ref az, .ref ar, .int (zI np), .ref am, .int (zI 0)])), (ae, .inl (cI, 256, .inl (zA xe))), (al, .inl (cI, 4, .inl (zA xl))), (am, .inl (cI, 64, .inl (zA xm2)))]) (rs := [(ap, .inl (cI, 8, .inl (zA xp))), (az, .inl (cI, 8, .inl (zA xz))), (ar, .inl (cI, 8, .inl (zA xr)))]) (wc := [(ae, .inl (cI, 256, .inl (zA xe))), (al, .inl (cI, 4, .inl (zA xl)))]) (rc := [(h0, .inr (5, [.ref ae, .ref al, .ref ap, .ref az, .ref ar, .int (zI np), .ref am, .int (zI 0)])), (am, .inl (cI, 64, .inl (zA xm2)))]) hD hR0 (isC := [1, 2]) (isR := [0, 3]) rfl rfl (by decide)) (hK.sub (tys' := [(cI, .int)]) [0] rfl)) rfl rfl hl.1 rfl (lv_room (Nat.le_of_ble_eq_true rfl)) dX6_transforms_201 ⟨Nat.le_of_ble_eq_true rfl, Nat.le_of_ble_eq_true rfl⟩) hP hD hS hA [1, 2] [0, 3] rfl rfl (by decide) (by decide) (cells' := 0) (slots' := 0) rfl rfl (fun u_201 H locs hp_201 hP hD hS => ?_)
    revert hp_201 hP hD
    generalize u_201 = xe2_201
    intro hp_201 hP hD
    have hp_201 : (∀ k, 0 ≤ k → k < (xz i) → xe2_201 (64 * r + k) = xm2 k) ∧ (∀ x, x < 64 * r ∨ 64 * r + (xz i) ≤ x → xe2_201 x = xe x) := hp_201
    have hP := hP.sub (ws' := [(h0, .inr (5, [.ref ae, .ref al, .ref ap, .ref az, .ref ar, .int (zI np), .ref am, .int (zI 0)])), (ae, .inl (cI, 256, .inl (zA xe2_201))), (al, .inl (cI, 4, .inl (zA (zU xl r (xz i))))), (am, .inl (cI, 64, .inl (zA xm2)))]) [0, 2, 3, 1] rfl
    have hD := hD.sub (ws' := [(h0, .inr (5, [.ref ae, .ref al, .ref ap, .ref az, .ref ar, .int (zI np), .ref am, .int (zI 0)])), (ae, .inl (cI, 256, .inl (zA xe2_201))), (al, .inl (cI, 4, .inl (zA (zU xl r (xz i))))), (am, .inl (cI, 64, .inl (zA xm2)))]) [0, 2, 3, 1] (by decide) rfl
    have hR := hR0.at hS
    refine lv_istore (lv' := [(9, .int (zI (xz i))), (0, .ref h0), (1, .int (zI i)), (2, .int (zI r)), (3, .int (zI w)), (4, .int (zI 1)), (5, .int (zI 1)), (6, .int (zI (xp i))), (7, .int (zI (pwm (xr i) ((xp i) - 2) (xp i)))), (8, .int (zI (pwm (xz i) ((xp i) - 2) (xp i))))]) hx hb dX6_transforms_204 hl (by decide) rfl (fun ls hl => ?_)
    have hl := lv_sub hl [1, 2, 3, 4, 5, 6, 7, 8, 9, 0] rfl
    have hl : lv_has ls 10 [(0, .ref h0), (1, .int (zI i)), (2, .int (zI r)), (3, .int (zI w)), (4, .int (zI 1)), (5, .int (zI 1)), (6, .int (zI (xp i))), (7, .int (zI (pwm (xr i) ((xp i) - 2) (xp i)))), (8, .int (zI (pwm (xz i) ((xp i) - 2) (xp i)))), (9, .int (zI (xz i)))] := hl
    refine lv_aload_n hx hb dX6_transforms_206 rfl (lv_at hl 0 rfl) ?_
    refine va_get (D := D) (ci := 5) (C := RX6) (T := TX6) (N := 8) hx hb hts hi6 hown hK hP 0 rfl rfl 6 (by decide) (hts (.fieldLink RX6 25 "ButterflyYardModel" "made" "[I") (by decide +kernel)) (fun _ h9 => h9) rfl dX6_transforms_207 ?_
    refine z_iconst hx hb dX6_transforms_210 ?_
    refine z_iald (cA := cI) (n := 64) (g := xm2) hx hb hK hP 3 0 rfl rfl rfl (by omega) dX6_transforms_211 ?_
    have hres : sumR (xp i) (xz i) (pwm (xr i) (xp i - 2) (xp i)) (fun j => rowAt (eRow xe r) (xl r) j % xp i) 0 * pwm (xz i) (xp i - 2) (xp i) % xp i = xm2 0 := by rw [hm_ 0 (by omega) (by omega)]
    exact z_iret hx hb hr hlocks rfl (xe2_201, xm2) (congrArg (fun z => some (Value.int (zI z))) hres) (by exact ⟨fun y h1 h2 => by show xe2_201 (64 * r + y) = _; rw [hp_201.1 y h1 h2]; exact hm_ y h1 (by omega), hp_201.2⟩) hP hD hS dX6_transforms_212
  · refine lv_aload_n hx hb dX6_transforms_164 rfl (lv_at hl 0 rfl) ?_
    refine va_get (D := D) (ci := 5) (C := RX6) (T := TX6) (N := 8) hx hb hts hi6 hown hK hP 0 rfl rfl 6 (by decide) (hts (.fieldLink RX6 25 "ButterflyYardModel" "made" "[I") (by decide +kernel)) (fun _ h9 => h9) rfl dX6_transforms_165 ?_
    refine lv_iload hx hb dX6_transforms_168 (lv_at hl 9 rfl) ?_
    refine lv_aload_n hx hb dX6_transforms_170 rfl (lv_at hl 0 rfl) ?_
    refine lv_iload_n hx hb dX6_transforms_171 rfl (lv_at hl 1 rfl) ?_
    refine lv_iload_n hx hb dX6_transforms_172 rfl (lv_at hl 2 rfl) ?_
    refine lv_iload hx hb dX6_transforms_173 (lv_at hl 9 rfl) ?_
    refine lv_iload hx hb dX6_transforms_175 (lv_at hl 7 rfl) ?_
    have hRc := z_subR (ws := [(h0, .inr (5, [.ref ae, .ref al, .ref ap, .ref az, .ref ar, .int (zI np), .ref am, .int (zI 0)])), (ae, .inl (cI, 256, .inl (zA xe))), (al, .inl (cI, 4, .inl (zA xl))), (am, .inl (cI, 64, .inl (zA xm2)))]) (rs := [(ap, .inl (cI, 8, .inl (zA xp))), (az, .inl (cI, 8, .inl (zA xz))), (ar, .inl (cI, 8, .inl (zA xr)))]) (rc := [(h0, .inr (5, [.ref ae, .ref al, .ref ap, .ref az, .ref ar, .int (zI np), .ref am, .int (zI 0)])), (ae, .inl (cI, 256, .inl (zA xe))), (al, .inl (cI, 4, .inl (zA xl))), (ap, .inl (cI, 8, .inl (zA xp))), (az, .inl (cI, 8, .inl (zA xz)))]) hP hR (isR := [0, 1, 2, 4, 5]) rfl
    refine z_ro (ws := [(h0, .inr (5, [.ref ae, .ref al, .ref ap, .ref az, .ref ar, .int (zI np), .ref am, .int (zI 0)])), (ae, .inl (cI, 256, .inl (zA xe))), (al, .inl (cI, 4, .inl (zA xl))), (am, .inl (cI, 64, .inl (zA xm2)))]) (va_runV (As := [.int (zI i), .int (zI r), .int (zI k), .int (zI (pwm (xr i) ((xp i) - 2) (xp i)))]) (rest := [.int (zI k), .ref am]) CF (c_X6_sumFor l D cI h0 ae al ap az ar am np 0 xe xl xp xz i r k (pwm (xr i) ((xp i) - 2) (xp i)) (by omega) (by omega) (by omega) (by omega) (by omega) (by exact hxl_r) (by exact hxe) (by omega) (by omega) H.size) (cwV 4 hts gX6_transforms_X6_sumFor rfl rfl rfl (by decide +kernel) ⟨Nat.le_of_ble_eq_true rfl, Nat.le_of_ble_eq_true rfl⟩) (z_preV (va_recv hK hP (ci := 5) (q0 := 0) rfl rfl) z_nilP (z_nilD (A := A)) hRc z_noX (hK.sub (tys' := [(cI, .int)]) [0] rfl)) rfl rfl hl.1 rfl (lv_room (Nat.le_of_ble_eq_true rfl)) dX6_transforms_177 ⟨Nat.le_of_ble_eq_true rfl, Nat.le_of_ble_eq_true rfl⟩) hP hS hA (cells' := 0) (slots' := 0) rfl rfl (fun H locs hP hS => ?_)
    have hR := hR0.at hS
    refine lv_iload hx hb dX6_transforms_180 (lv_at hl 8 rfl) ?_
    have hsr := z_rem (a := zT (fun j => (fun j => rowAt (eRow xe r) (xl r) j % xp i) j * pwm (pwm (pwm (xr i) (xp i - 2) (xp i)) k (xp i)) j (xp i)) (xz i)) (n := xp i) (by omega)
    have hsb := z_mulb (a := sumR (xp i) (xz i) (pwm (xr i) (xp i - 2) (xp i)) (fun j => rowAt (eRow xe r) (xl r) j % xp i) k) (b := pwm (xz i) (xp i - 2) (xp i)) (A := 10000) (B := 10000) hsr.1 (by omega) (by have := hsr.2; show _ % _ ≤ 10000; omega) (by omega)
    refine z_imul hx hb dX6_transforms_182 ?_
    refine lv_iload hx hb dX6_transforms_183 (lv_at hl 6 rfl) ?_
    refine z_irem hx hb dX6_transforms_185 (by omega) (by omega) ?_
    have hm_185 := z_rem (a := (sumR (xp i) (xz i) (pwm (xr i) ((xp i) - 2) (xp i)) (fun j => rowAt (eRow xe r) (xl r) j % xp i) k) * (pwm (xz i) ((xp i) - 2) (xp i))) (n := xp i) (by omega)
    refine z_iast (cA := cI) (n := 64) (g := xm2) (i := k) (v := ((sumR (xp i) (xz i) (pwm (xr i) ((xp i) - 2) (xp i)) (fun j => rowAt (eRow xe r) (xl r) j % xp i) k) * (pwm (xz i) ((xp i) - 2) (xp i))) % (xp i)) hx hb hK hP hD hS 3 0 rfl rfl rfl (by omega) dX6_transforms_186 (fun H locs hP hD hS => ?_)
    have hP : va_P D vwCl [(h0, .inr (5, [.ref ae, .ref al, .ref ap, .ref az, .ref ar, .int (zI np), .ref am, .int (zI 0)])), (ae, .inl (cI, 256, .inl (zA xe))), (al, .inl (cI, 4, .inl (zA xl))), (am, .inl (cI, 64, .inl (zA (zU xm2 k (((sumR (xp i) (xz i) (pwm (xr i) ((xp i) - 2) (xp i)) (fun j => rowAt (eRow xe r) (xl r) j % xp i) k) * (pwm (xz i) ((xp i) - 2) (xp i))) % (xp i))))))] H := hP
    have hD : va_D A [(h0, .inr (5, [.ref ae, .ref al, .ref ap, .ref az, .ref ar, .int (zI np), .ref am, .int (zI 0)])), (ae, .inl (cI, 256, .inl (zA xe))), (al, .inl (cI, 4, .inl (zA xl))), (am, .inl (cI, 64, .inl (zA (zU xm2 k (((sumR (xp i) (xz i) (pwm (xr i) ((xp i) - 2) (xp i)) (fun j => rowAt (eRow xe r) (xl r) j % xp i) k) * (pwm (xz i) ((xp i) - 2) (xp i))) % (xp i))))))] := hD
    have hR := hR0.at hS
    refine lv_iinc (v := zI (k + 1)) (lv' := [(9, .int (zI (k + 1))), (0, .ref h0), (1, .int (zI i)), (2, .int (zI r)), (3, .int (zI w)), (4, .int (zI 1)), (5, .int (zI 1)), (6, .int (zI (xp i))), (7, .int (zI (pwm (xr i) ((xp i) - 2) (xp i)))), (8, .int (zI (pwm (xz i) ((xp i) - 2) (xp i))))]) hx hb dX6_transforms_187 hl (k := 9) rfl (zI_add _ _) (by decide) rfl (fun ls hl => ?_)
    have hl := lv_sub hl [1, 2, 3, 4, 5, 6, 7, 8, 9, 0] rfl
    have hl : lv_has ls 10 [(0, .ref h0), (1, .int (zI i)), (2, .int (zI r)), (3, .int (zI w)), (4, .int (zI 1)), (5, .int (zI 1)), (6, .int (zI (xp i))), (7, .int (zI (pwm (xr i) ((xp i) - 2) (xp i)))), (8, .int (zI (pwm (xz i) ((xp i) - 2) (xp i)))), (9, .int (zI (k + 1)))] := hl
    refine lv_goto (tgt := 153) hx hb dX6_transforms_190 (by decide) ?_
    exact ih_153 (k + 1, zU xm2 k (((sumR (xp i) (xz i) (pwm (xr i) ((xp i) - 2) (xp i)) (fun j => rowAt (eRow xe r) (xl r) j % xp i) k) * (pwm (xz i) ((xp i) - 2) (xp i))) % (xp i))) _ _ _ ⟨(by omega), (by exact zU_fill hm_ rfl), hP, hD, hS, hl⟩ (by show (xz i - (k + 1)).toNat < (xz i - k).toNat; omega)

set_option maxHeartbeats 4000000 in
set_option maxRecDepth 100000 in
theorem c_X6_backward_1a (l : Launch) (D : va_G) (cI : ClassId) (h0 : Nat) (ae : Nat) (al : Nat) (ap : Nat) (az : Nat) (ar : Nat) (am : Nat) (np : Int) (th : Int) (i : Int) (r : Int) (w : Int) (ha_i : -2147483648 ≤ i ∧ i ≤ 2147483647) (ha_r : -2147483648 ≤ r ∧ r ≤ 2147483647) (ha_w : -2147483648 ≤ w ∧ w ≤ 2147483647) (hnp_ : 0 ≤ np ∧ np ≤ 8) (hi0 : ¬ (0 ≤ i ∧ i < np)) : zC l yX6_backward wsX6_backward ({ frames := 2, cells := 0, slots := 0, locals := 50 } : Room) D [(cI, .int)] [(h0, .inr (5, [.ref ae, .ref al, .ref ap, .ref az, .ref ar, .int (zI np), .ref am, .int (zI th)]))] [] [.ref h0, .int (zI i), .int (zI r), .int (zI w)] (S := Unit) (fun u => True) (fun u => some (.int (zI 0))) (fun u => [(h0, .inr (5, [.ref ae, .ref al, .ref ap, .ref az, .ref ar, .int (zI np), .ref am, .int (zI 1)]))]) := by
  refine z_start (cc := cX6_backward) (maxL := 4) (ret := (some .int)) (own := RX6) (by decide) rfl rfl (Nat.le_of_ble_eq_true rfl) [(0, .ref h0), (1, .int (zI i)), (2, .int (zI r)), (3, .int (zI w))] rfl ?_
  intro pp ee s mm below meth cc A H ls hx hb hr hml hts hown hlocks hin hK hA hP hD hS hR0 hR hl
  have CF : CallFix pp mm cc cX6_backward 4 s ([.ref h0, .int (zI i), .int (zI r), .int (zI w)] : List Value).toArray wsX6_backward RX6 := ⟨hx, hb, hml, hown, hts⟩
  refine lv_aload_n hx hb dX6_backward_0 rfl (lv_at hl 0 rfl) ?_
  refine lv_iload_n hx hb dX6_backward_1 rfl (lv_at hl 1 rfl) ?_
  refine lv_iload_n hx hb dX6_backward_2 rfl (lv_at hl 2 rfl) ?_
  refine lv_iload_n hx hb dX6_backward_3 rfl (lv_at hl 3 rfl) ?_
  refine z_iconst hx hb dX6_backward_4 ?_
  have hRc : va_P D vwCl [] H := z_nilP
  have hPc := hP.sub (ws' := [(h0, .inr (5, [.ref ae, .ref al, .ref ap, .ref az, .ref ar, .int (zI np), .ref am, .int (zI th)]))]) [0] rfl
  have hDc := hD.sub (ws' := [(h0, .inr (5, [.ref ae, .ref al, .ref ap, .ref az, .ref ar, .int (zI np), .ref am, .int (zI th)]))]) [0] (by decide) rfl
  refine z_mu (ws := [(h0, .inr (5, [.ref ae, .ref al, .ref ap, .ref az, .ref ar, .int (zI np), .ref am, .int (zI th)]))]) (wc := [(h0, .inr (5, [.ref ae, .ref al, .ref ap, .ref az, .ref ar, .int (zI np), .ref am, .int (zI th)]))]) (wr := []) (va_runV (As := [.int (zI i), .int (zI r), .int (zI w), .int (zI 1)]) (rest := []) CF (c_X6_transforms_1ab l D cI h0 ae al ap az ar am np th i r w (by omega) (by omega) (by omega) (by omega) (by omega) H.size) (cwV 4 hts gX6_backward_X6_transforms rfl rfl rfl (by decide +kernel) ⟨Nat.le_of_ble_eq_true rfl, Nat.le_of_ble_eq_true rfl⟩) (z_preV (va_recv hK hP (ci := 5) (q0 := 0) rfl rfl) hPc hDc hRc (z_dis (ws := [(h0, .inr (5, [.ref ae, .ref al, .ref ap, .ref az, .ref ar, .int (zI np), .ref am, .int (zI th)]))]) (rs := []) (wc := [(h0, .inr (5, [.ref ae, .ref al, .ref ap, .ref az, .ref ar, .int (zI np), .ref am, .int (zI th)]))]) (rc := []) hD hR0 (isC := [0]) (isR := []) rfl rfl (by decide)) (hK.sub (tys' := [(cI, .int)]) [0] rfl)) rfl rfl hl.1 rfl (lv_room (Nat.le_of_ble_eq_true rfl)) dX6_backward_5 ⟨Nat.le_of_ble_eq_true rfl, Nat.le_of_ble_eq_true rfl⟩) hP hD hS hA [0] [] rfl rfl (by decide) (by decide) (cells' := 0) (slots' := 0) rfl rfl (fun u_5 H locs hp_5 hP hD hS => ?_)
  have hp_5 : True := hp_5
  have hP := hP.sub (ws' := [(h0, .inr (5, [.ref ae, .ref al, .ref ap, .ref az, .ref ar, .int (zI np), .ref am, .int (zI 1)]))]) [0] rfl
  have hD := hD.sub (ws' := [(h0, .inr (5, [.ref ae, .ref al, .ref ap, .ref az, .ref ar, .int (zI np), .ref am, .int (zI 1)]))]) [0] (by decide) rfl
  exact z_iret hx hb hr hlocks rfl () (rfl) (trivial) hP hD hS dX6_backward_8

set_option maxHeartbeats 4000000 in
set_option maxRecDepth 100000 in
theorem c_X6_backward_1b (l : Launch) (D : va_G) (cI : ClassId) (h0 : Nat) (ae : Nat) (al : Nat) (ap : Nat) (az : Nat) (ar : Nat) (am : Nat) (np : Int) (th : Int) (i : Int) (r : Int) (w : Int) (ha_i : -2147483648 ≤ i ∧ i ≤ 2147483647) (ha_r : -2147483648 ≤ r ∧ r ≤ 2147483647) (ha_w : -2147483648 ≤ w ∧ w ≤ 2147483647) (hnp_ : 0 ≤ np ∧ np ≤ 8) (hi0 : 0 ≤ i ∧ i < np) (hb_r : ¬ (0 ≤ r ∧ r < 4)) : zC l yX6_backward wsX6_backward ({ frames := 2, cells := 0, slots := 0, locals := 50 } : Room) D [(cI, .int)] [(h0, .inr (5, [.ref ae, .ref al, .ref ap, .ref az, .ref ar, .int (zI np), .ref am, .int (zI th)]))] [] [.ref h0, .int (zI i), .int (zI r), .int (zI w)] (S := Unit) (fun u => True) (fun u => some (.int (zI 0))) (fun u => [(h0, .inr (5, [.ref ae, .ref al, .ref ap, .ref az, .ref ar, .int (zI np), .ref am, .int (zI 1)]))]) := by
  refine z_start (cc := cX6_backward) (maxL := 4) (ret := (some .int)) (own := RX6) (by decide) rfl rfl (Nat.le_of_ble_eq_true rfl) [(0, .ref h0), (1, .int (zI i)), (2, .int (zI r)), (3, .int (zI w))] rfl ?_
  intro pp ee s mm below meth cc A H ls hx hb hr hml hts hown hlocks hin hK hA hP hD hS hR0 hR hl
  have CF : CallFix pp mm cc cX6_backward 4 s ([.ref h0, .int (zI i), .int (zI r), .int (zI w)] : List Value).toArray wsX6_backward RX6 := ⟨hx, hb, hml, hown, hts⟩
  refine lv_aload_n hx hb dX6_backward_0 rfl (lv_at hl 0 rfl) ?_
  refine lv_iload_n hx hb dX6_backward_1 rfl (lv_at hl 1 rfl) ?_
  refine lv_iload_n hx hb dX6_backward_2 rfl (lv_at hl 2 rfl) ?_
  refine lv_iload_n hx hb dX6_backward_3 rfl (lv_at hl 3 rfl) ?_
  refine z_iconst hx hb dX6_backward_4 ?_
  have hRc : va_P D vwCl [] H := z_nilP
  have hPc := hP.sub (ws' := [(h0, .inr (5, [.ref ae, .ref al, .ref ap, .ref az, .ref ar, .int (zI np), .ref am, .int (zI th)]))]) [0] rfl
  have hDc := hD.sub (ws' := [(h0, .inr (5, [.ref ae, .ref al, .ref ap, .ref az, .ref ar, .int (zI np), .ref am, .int (zI th)]))]) [0] (by decide) rfl
  refine z_mu (ws := [(h0, .inr (5, [.ref ae, .ref al, .ref ap, .ref az, .ref ar, .int (zI np), .ref am, .int (zI th)]))]) (wc := [(h0, .inr (5, [.ref ae, .ref al, .ref ap, .ref az, .ref ar, .int (zI np), .ref am, .int (zI th)]))]) (wr := []) (va_runV (As := [.int (zI i), .int (zI r), .int (zI w), .int (zI 1)]) (rest := []) CF (c_X6_transforms_1bb l D cI h0 ae al ap az ar am np th i r w (by omega) (by omega) (by omega) (by omega) (by omega) (by omega) H.size) (cwV 4 hts gX6_backward_X6_transforms rfl rfl rfl (by decide +kernel) ⟨Nat.le_of_ble_eq_true rfl, Nat.le_of_ble_eq_true rfl⟩) (z_preV (va_recv hK hP (ci := 5) (q0 := 0) rfl rfl) hPc hDc hRc (z_dis (ws := [(h0, .inr (5, [.ref ae, .ref al, .ref ap, .ref az, .ref ar, .int (zI np), .ref am, .int (zI th)]))]) (rs := []) (wc := [(h0, .inr (5, [.ref ae, .ref al, .ref ap, .ref az, .ref ar, .int (zI np), .ref am, .int (zI th)]))]) (rc := []) hD hR0 (isC := [0]) (isR := []) rfl rfl (by decide)) (hK.sub (tys' := [(cI, .int)]) [0] rfl)) rfl rfl hl.1 rfl (lv_room (Nat.le_of_ble_eq_true rfl)) dX6_backward_5 ⟨Nat.le_of_ble_eq_true rfl, Nat.le_of_ble_eq_true rfl⟩) hP hD hS hA [0] [] rfl rfl (by decide) (by decide) (cells' := 0) (slots' := 0) rfl rfl (fun u_5 H locs hp_5 hP hD hS => ?_)
  have hp_5 : True := hp_5
  have hP := hP.sub (ws' := [(h0, .inr (5, [.ref ae, .ref al, .ref ap, .ref az, .ref ar, .int (zI np), .ref am, .int (zI 1)]))]) [0] rfl
  have hD := hD.sub (ws' := [(h0, .inr (5, [.ref ae, .ref al, .ref ap, .ref az, .ref ar, .int (zI np), .ref am, .int (zI 1)]))]) [0] (by decide) rfl
  exact z_iret hx hb hr hlocks rfl () (rfl) (trivial) hP hD hS dX6_backward_8

set_option maxHeartbeats 4000000 in
set_option maxRecDepth 100000 in
theorem c_X6_backward_2a (l : Launch) (D : va_G) (cI : ClassId) (h0 : Nat) (ae : Nat) (al : Nat) (ap : Nat) (az : Nat) (ar : Nat) (am : Nat) (np : Int) (th : Int) (i : Int) (r : Int) (w : Int) (ha_i : -2147483648 ≤ i ∧ i ≤ 2147483647) (ha_r : -2147483648 ≤ r ∧ r ≤ 2147483647) (ha_w : -2147483648 ≤ w ∧ w ≤ 2147483647) (hnp_ : 0 ≤ np ∧ np ≤ 8) (hi0 : 0 ≤ i ∧ i < np) (hr_r : 0 ≤ r ∧ r < 4) (hw_ : w < 0) : zC l yX6_backward wsX6_backward ({ frames := 2, cells := 0, slots := 0, locals := 50 } : Room) D [(cI, .int)] [(h0, .inr (5, [.ref ae, .ref al, .ref ap, .ref az, .ref ar, .int (zI np), .ref am, .int (zI th)]))] [] [.ref h0, .int (zI i), .int (zI r), .int (zI w)] (S := Unit) (fun u => True) (fun u => some (.int (zI 0))) (fun u => [(h0, .inr (5, [.ref ae, .ref al, .ref ap, .ref az, .ref ar, .int (zI np), .ref am, .int (zI 2)]))]) := by
  refine z_start (cc := cX6_backward) (maxL := 4) (ret := (some .int)) (own := RX6) (by decide) rfl rfl (Nat.le_of_ble_eq_true rfl) [(0, .ref h0), (1, .int (zI i)), (2, .int (zI r)), (3, .int (zI w))] rfl ?_
  intro pp ee s mm below meth cc A H ls hx hb hr hml hts hown hlocks hin hK hA hP hD hS hR0 hR hl
  have CF : CallFix pp mm cc cX6_backward 4 s ([.ref h0, .int (zI i), .int (zI r), .int (zI w)] : List Value).toArray wsX6_backward RX6 := ⟨hx, hb, hml, hown, hts⟩
  refine lv_aload_n hx hb dX6_backward_0 rfl (lv_at hl 0 rfl) ?_
  refine lv_iload_n hx hb dX6_backward_1 rfl (lv_at hl 1 rfl) ?_
  refine lv_iload_n hx hb dX6_backward_2 rfl (lv_at hl 2 rfl) ?_
  refine lv_iload_n hx hb dX6_backward_3 rfl (lv_at hl 3 rfl) ?_
  refine z_iconst hx hb dX6_backward_4 ?_
  have hRc : va_P D vwCl [] H := z_nilP
  have hPc := hP.sub (ws' := [(h0, .inr (5, [.ref ae, .ref al, .ref ap, .ref az, .ref ar, .int (zI np), .ref am, .int (zI th)]))]) [0] rfl
  have hDc := hD.sub (ws' := [(h0, .inr (5, [.ref ae, .ref al, .ref ap, .ref az, .ref ar, .int (zI np), .ref am, .int (zI th)]))]) [0] (by decide) rfl
  refine z_mu (ws := [(h0, .inr (5, [.ref ae, .ref al, .ref ap, .ref az, .ref ar, .int (zI np), .ref am, .int (zI th)]))]) (wc := [(h0, .inr (5, [.ref ae, .ref al, .ref ap, .ref az, .ref ar, .int (zI np), .ref am, .int (zI th)]))]) (wr := []) (va_runV (As := [.int (zI i), .int (zI r), .int (zI w), .int (zI 1)]) (rest := []) CF (c_X6_transforms_2ab l D cI h0 ae al ap az ar am np th i r w (by omega) (by omega) (by omega) (by omega) (by omega) (by omega) (by omega) H.size) (cwV 4 hts gX6_backward_X6_transforms rfl rfl rfl (by decide +kernel) ⟨Nat.le_of_ble_eq_true rfl, Nat.le_of_ble_eq_true rfl⟩) (z_preV (va_recv hK hP (ci := 5) (q0 := 0) rfl rfl) hPc hDc hRc (z_dis (ws := [(h0, .inr (5, [.ref ae, .ref al, .ref ap, .ref az, .ref ar, .int (zI np), .ref am, .int (zI th)]))]) (rs := []) (wc := [(h0, .inr (5, [.ref ae, .ref al, .ref ap, .ref az, .ref ar, .int (zI np), .ref am, .int (zI th)]))]) (rc := []) hD hR0 (isC := [0]) (isR := []) rfl rfl (by decide)) (hK.sub (tys' := [(cI, .int)]) [0] rfl)) rfl rfl hl.1 rfl (lv_room (Nat.le_of_ble_eq_true rfl)) dX6_backward_5 ⟨Nat.le_of_ble_eq_true rfl, Nat.le_of_ble_eq_true rfl⟩) hP hD hS hA [0] [] rfl rfl (by decide) (by decide) (cells' := 0) (slots' := 0) rfl rfl (fun u_5 H locs hp_5 hP hD hS => ?_)
  have hp_5 : True := hp_5
  have hP := hP.sub (ws' := [(h0, .inr (5, [.ref ae, .ref al, .ref ap, .ref az, .ref ar, .int (zI np), .ref am, .int (zI 2)]))]) [0] rfl
  have hD := hD.sub (ws' := [(h0, .inr (5, [.ref ae, .ref al, .ref ap, .ref az, .ref ar, .int (zI np), .ref am, .int (zI 2)]))]) [0] (by decide) rfl
  exact z_iret hx hb hr hlocks rfl () (rfl) (trivial) hP hD hS dX6_backward_8

set_option maxHeartbeats 4000000 in
set_option maxRecDepth 100000 in
theorem c_X6_backward_2b (l : Launch) (D : va_G) (cI : ClassId) (h0 : Nat) (ae : Nat) (al : Nat) (ap : Nat) (az : Nat) (ar : Nat) (am : Nat) (np : Int) (th : Int) (i : Int) (r : Int) (w : Int) (ha_i : -2147483648 ≤ i ∧ i ≤ 2147483647) (ha_r : -2147483648 ≤ r ∧ r ≤ 2147483647) (ha_w : -2147483648 ≤ w ∧ w ≤ 2147483647) (hnp_ : 0 ≤ np ∧ np ≤ 8) (hi0 : 0 ≤ i ∧ i < np) (hr_r : 0 ≤ r ∧ r < 4) (hw_ : 4 < w) : zC l yX6_backward wsX6_backward ({ frames := 2, cells := 0, slots := 0, locals := 50 } : Room) D [(cI, .int)] [(h0, .inr (5, [.ref ae, .ref al, .ref ap, .ref az, .ref ar, .int (zI np), .ref am, .int (zI th)]))] [] [.ref h0, .int (zI i), .int (zI r), .int (zI w)] (S := Unit) (fun u => True) (fun u => some (.int (zI 0))) (fun u => [(h0, .inr (5, [.ref ae, .ref al, .ref ap, .ref az, .ref ar, .int (zI np), .ref am, .int (zI 2)]))]) := by
  refine z_start (cc := cX6_backward) (maxL := 4) (ret := (some .int)) (own := RX6) (by decide) rfl rfl (Nat.le_of_ble_eq_true rfl) [(0, .ref h0), (1, .int (zI i)), (2, .int (zI r)), (3, .int (zI w))] rfl ?_
  intro pp ee s mm below meth cc A H ls hx hb hr hml hts hown hlocks hin hK hA hP hD hS hR0 hR hl
  have CF : CallFix pp mm cc cX6_backward 4 s ([.ref h0, .int (zI i), .int (zI r), .int (zI w)] : List Value).toArray wsX6_backward RX6 := ⟨hx, hb, hml, hown, hts⟩
  refine lv_aload_n hx hb dX6_backward_0 rfl (lv_at hl 0 rfl) ?_
  refine lv_iload_n hx hb dX6_backward_1 rfl (lv_at hl 1 rfl) ?_
  refine lv_iload_n hx hb dX6_backward_2 rfl (lv_at hl 2 rfl) ?_
  refine lv_iload_n hx hb dX6_backward_3 rfl (lv_at hl 3 rfl) ?_
  refine z_iconst hx hb dX6_backward_4 ?_
  have hRc : va_P D vwCl [] H := z_nilP
  have hPc := hP.sub (ws' := [(h0, .inr (5, [.ref ae, .ref al, .ref ap, .ref az, .ref ar, .int (zI np), .ref am, .int (zI th)]))]) [0] rfl
  have hDc := hD.sub (ws' := [(h0, .inr (5, [.ref ae, .ref al, .ref ap, .ref az, .ref ar, .int (zI np), .ref am, .int (zI th)]))]) [0] (by decide) rfl
  refine z_mu (ws := [(h0, .inr (5, [.ref ae, .ref al, .ref ap, .ref az, .ref ar, .int (zI np), .ref am, .int (zI th)]))]) (wc := [(h0, .inr (5, [.ref ae, .ref al, .ref ap, .ref az, .ref ar, .int (zI np), .ref am, .int (zI th)]))]) (wr := []) (va_runV (As := [.int (zI i), .int (zI r), .int (zI w), .int (zI 1)]) (rest := []) CF (c_X6_transforms_2bb l D cI h0 ae al ap az ar am np th i r w (by omega) (by omega) (by omega) (by omega) (by omega) (by omega) (by omega) H.size) (cwV 4 hts gX6_backward_X6_transforms rfl rfl rfl (by decide +kernel) ⟨Nat.le_of_ble_eq_true rfl, Nat.le_of_ble_eq_true rfl⟩) (z_preV (va_recv hK hP (ci := 5) (q0 := 0) rfl rfl) hPc hDc hRc (z_dis (ws := [(h0, .inr (5, [.ref ae, .ref al, .ref ap, .ref az, .ref ar, .int (zI np), .ref am, .int (zI th)]))]) (rs := []) (wc := [(h0, .inr (5, [.ref ae, .ref al, .ref ap, .ref az, .ref ar, .int (zI np), .ref am, .int (zI th)]))]) (rc := []) hD hR0 (isC := [0]) (isR := []) rfl rfl (by decide)) (hK.sub (tys' := [(cI, .int)]) [0] rfl)) rfl rfl hl.1 rfl (lv_room (Nat.le_of_ble_eq_true rfl)) dX6_backward_5 ⟨Nat.le_of_ble_eq_true rfl, Nat.le_of_ble_eq_true rfl⟩) hP hD hS hA [0] [] rfl rfl (by decide) (by decide) (cells' := 0) (slots' := 0) rfl rfl (fun u_5 H locs hp_5 hP hD hS => ?_)
  have hp_5 : True := hp_5
  have hP := hP.sub (ws' := [(h0, .inr (5, [.ref ae, .ref al, .ref ap, .ref az, .ref ar, .int (zI np), .ref am, .int (zI 2)]))]) [0] rfl
  have hD := hD.sub (ws' := [(h0, .inr (5, [.ref ae, .ref al, .ref ap, .ref az, .ref ar, .int (zI np), .ref am, .int (zI 2)]))]) [0] (by decide) rfl
  exact z_iret hx hb hr hlocks rfl () (rfl) (trivial) hP hD hS dX6_backward_8

set_option maxHeartbeats 4000000 in
set_option maxRecDepth 100000 in
theorem c_X6_backward_2c (l : Launch) (D : va_G) (cI : ClassId) (h0 : Nat) (ae : Nat) (al : Nat) (ap : Nat) (az : Nat) (ar : Nat) (am : Nat) (np : Int) (th : Int) (xz : Int → Int) (i : Int) (r : Int) (w : Int) (ha_i : -2147483648 ≤ i ∧ i ≤ 2147483647) (ha_r : -2147483648 ≤ r ∧ r ≤ 2147483647) (ha_w : -2147483648 ≤ w ∧ w ≤ 2147483647) (hnp_ : 0 ≤ np ∧ np ≤ 8) (hi0 : 0 ≤ i ∧ i < np) (hz_ : 1 ≤ xz i ∧ xz i ≤ 64) (hr_r : 0 ≤ r ∧ r < 4) (hw_ : 0 ≤ w ∧ w ≤ 4) (hw2 : wset (xz i) / 2 ^ w.toNat % 2 ≠ 1) : zC l yX6_backward wsX6_backward ({ frames := 3, cells := 0, slots := 0, locals := 75 } : Room) D [(cI, .int)] [(h0, .inr (5, [.ref ae, .ref al, .ref ap, .ref az, .ref ar, .int (zI np), .ref am, .int (zI th)]))] [(az, .inl (cI, 8, .inl (zA xz)))] [.ref h0, .int (zI i), .int (zI r), .int (zI w)] (S := Unit) (fun u => True) (fun u => some (.int (zI 0))) (fun u => [(h0, .inr (5, [.ref ae, .ref al, .ref ap, .ref az, .ref ar, .int (zI np), .ref am, .int (zI 2)]))]) := by
  refine z_start (cc := cX6_backward) (maxL := 4) (ret := (some .int)) (own := RX6) (by decide) rfl rfl (Nat.le_of_ble_eq_true rfl) [(0, .ref h0), (1, .int (zI i)), (2, .int (zI r)), (3, .int (zI w))] rfl ?_
  intro pp ee s mm below meth cc A H ls hx hb hr hml hts hown hlocks hin hK hA hP hD hS hR0 hR hl
  have CF : CallFix pp mm cc cX6_backward 4 s ([.ref h0, .int (zI i), .int (zI r), .int (zI w)] : List Value).toArray wsX6_backward RX6 := ⟨hx, hb, hml, hown, hts⟩
  refine lv_aload_n hx hb dX6_backward_0 rfl (lv_at hl 0 rfl) ?_
  refine lv_iload_n hx hb dX6_backward_1 rfl (lv_at hl 1 rfl) ?_
  refine lv_iload_n hx hb dX6_backward_2 rfl (lv_at hl 2 rfl) ?_
  refine lv_iload_n hx hb dX6_backward_3 rfl (lv_at hl 3 rfl) ?_
  refine z_iconst hx hb dX6_backward_4 ?_
  have hRc := z_subR (ws := [(h0, .inr (5, [.ref ae, .ref al, .ref ap, .ref az, .ref ar, .int (zI np), .ref am, .int (zI th)]))]) (rs := [(az, .inl (cI, 8, .inl (zA xz)))]) (rc := [(az, .inl (cI, 8, .inl (zA xz)))]) hP hR (isR := [1]) rfl
  have hPc := hP.sub (ws' := [(h0, .inr (5, [.ref ae, .ref al, .ref ap, .ref az, .ref ar, .int (zI np), .ref am, .int (zI th)]))]) [0] rfl
  have hDc := hD.sub (ws' := [(h0, .inr (5, [.ref ae, .ref al, .ref ap, .ref az, .ref ar, .int (zI np), .ref am, .int (zI th)]))]) [0] (by decide) rfl
  refine z_mu (ws := [(h0, .inr (5, [.ref ae, .ref al, .ref ap, .ref az, .ref ar, .int (zI np), .ref am, .int (zI th)]))]) (wc := [(h0, .inr (5, [.ref ae, .ref al, .ref ap, .ref az, .ref ar, .int (zI np), .ref am, .int (zI th)]))]) (wr := []) (va_runV (As := [.int (zI i), .int (zI r), .int (zI w), .int (zI 1)]) (rest := []) CF (c_X6_transforms_2cb l D cI h0 ae al ap az ar am np th xz i r w (by omega) (by omega) (by omega) (by omega) (by omega) (by omega) (by omega) (by omega) (by exact hw2) H.size) (cwV 4 hts gX6_backward_X6_transforms rfl rfl rfl (by decide +kernel) ⟨Nat.le_of_ble_eq_true rfl, Nat.le_of_ble_eq_true rfl⟩) (z_preV (va_recv hK hP (ci := 5) (q0 := 0) rfl rfl) hPc hDc hRc (z_dis (ws := [(h0, .inr (5, [.ref ae, .ref al, .ref ap, .ref az, .ref ar, .int (zI np), .ref am, .int (zI th)]))]) (rs := [(az, .inl (cI, 8, .inl (zA xz)))]) (wc := [(h0, .inr (5, [.ref ae, .ref al, .ref ap, .ref az, .ref ar, .int (zI np), .ref am, .int (zI th)]))]) (rc := [(az, .inl (cI, 8, .inl (zA xz)))]) hD hR0 (isC := [0]) (isR := [1]) rfl rfl (by decide)) (hK.sub (tys' := [(cI, .int)]) [0] rfl)) rfl rfl hl.1 rfl (lv_room (Nat.le_of_ble_eq_true rfl)) dX6_backward_5 ⟨Nat.le_of_ble_eq_true rfl, Nat.le_of_ble_eq_true rfl⟩) hP hD hS hA [0] [] rfl rfl (by decide) (by decide) (cells' := 0) (slots' := 0) rfl rfl (fun u_5 H locs hp_5 hP hD hS => ?_)
  have hp_5 : True := hp_5
  have hP := hP.sub (ws' := [(h0, .inr (5, [.ref ae, .ref al, .ref ap, .ref az, .ref ar, .int (zI np), .ref am, .int (zI 2)]))]) [0] rfl
  have hD := hD.sub (ws' := [(h0, .inr (5, [.ref ae, .ref al, .ref ap, .ref az, .ref ar, .int (zI np), .ref am, .int (zI 2)]))]) [0] (by decide) rfl
  have hR := hR0.at hS
  exact z_iret hx hb hr hlocks rfl () (rfl) (trivial) hP hD hS dX6_backward_8

set_option maxHeartbeats 4000000 in
set_option maxRecDepth 100000 in
theorem c_X6_backward_3 (l : Launch) (D : va_G) (cI : ClassId) (h0 : Nat) (ae : Nat) (al : Nat) (ap : Nat) (az : Nat) (ar : Nat) (am : Nat) (np : Int) (th : Int) (xl : Int → Int) (xz : Int → Int) (i : Int) (r : Int) (w : Int) (ha_i : -2147483648 ≤ i ∧ i ≤ 2147483647) (ha_r : -2147483648 ≤ r ∧ r ≤ 2147483647) (ha_w : -2147483648 ≤ w ∧ w ≤ 2147483647) (hnp_ : 0 ≤ np ∧ np ≤ 8) (hi0 : 0 ≤ i ∧ i < np) (hz_ : 1 ≤ xz i ∧ xz i ≤ 64) (hr_r : 0 ≤ r ∧ r < 4) (hxl_r : 0 ≤ xl r ∧ xl r ≤ 64) (hw_ : 0 ≤ w ∧ w ≤ 4) (hw2 : wset (xz i) / 2 ^ w.toNat % 2 = 1) (hlz : xz i < xl r) : zC l yX6_backward wsX6_backward ({ frames := 3, cells := 0, slots := 0, locals := 75 } : Room) D [(cI, .int)] [(h0, .inr (5, [.ref ae, .ref al, .ref ap, .ref az, .ref ar, .int (zI np), .ref am, .int (zI th)]))] [(al, .inl (cI, 4, .inl (zA xl))), (az, .inl (cI, 8, .inl (zA xz)))] [.ref h0, .int (zI i), .int (zI r), .int (zI w)] (S := Unit) (fun u => True) (fun u => some (.int (zI 0))) (fun u => [(h0, .inr (5, [.ref ae, .ref al, .ref ap, .ref az, .ref ar, .int (zI np), .ref am, .int (zI 3)]))]) := by
  refine z_start (cc := cX6_backward) (maxL := 4) (ret := (some .int)) (own := RX6) (by decide) rfl rfl (Nat.le_of_ble_eq_true rfl) [(0, .ref h0), (1, .int (zI i)), (2, .int (zI r)), (3, .int (zI w))] rfl ?_
  intro pp ee s mm below meth cc A H ls hx hb hr hml hts hown hlocks hin hK hA hP hD hS hR0 hR hl
  have CF : CallFix pp mm cc cX6_backward 4 s ([.ref h0, .int (zI i), .int (zI r), .int (zI w)] : List Value).toArray wsX6_backward RX6 := ⟨hx, hb, hml, hown, hts⟩
  refine lv_aload_n hx hb dX6_backward_0 rfl (lv_at hl 0 rfl) ?_
  refine lv_iload_n hx hb dX6_backward_1 rfl (lv_at hl 1 rfl) ?_
  refine lv_iload_n hx hb dX6_backward_2 rfl (lv_at hl 2 rfl) ?_
  refine lv_iload_n hx hb dX6_backward_3 rfl (lv_at hl 3 rfl) ?_
  refine z_iconst hx hb dX6_backward_4 ?_
  have hRc := z_subR (ws := [(h0, .inr (5, [.ref ae, .ref al, .ref ap, .ref az, .ref ar, .int (zI np), .ref am, .int (zI th)]))]) (rs := [(al, .inl (cI, 4, .inl (zA xl))), (az, .inl (cI, 8, .inl (zA xz)))]) (rc := [(al, .inl (cI, 4, .inl (zA xl))), (az, .inl (cI, 8, .inl (zA xz)))]) hP hR (isR := [1, 2]) rfl
  have hPc := hP.sub (ws' := [(h0, .inr (5, [.ref ae, .ref al, .ref ap, .ref az, .ref ar, .int (zI np), .ref am, .int (zI th)]))]) [0] rfl
  have hDc := hD.sub (ws' := [(h0, .inr (5, [.ref ae, .ref al, .ref ap, .ref az, .ref ar, .int (zI np), .ref am, .int (zI th)]))]) [0] (by decide) rfl
  refine z_mu (ws := [(h0, .inr (5, [.ref ae, .ref al, .ref ap, .ref az, .ref ar, .int (zI np), .ref am, .int (zI th)]))]) (wc := [(h0, .inr (5, [.ref ae, .ref al, .ref ap, .ref az, .ref ar, .int (zI np), .ref am, .int (zI th)]))]) (wr := []) (va_runV (As := [.int (zI i), .int (zI r), .int (zI w), .int (zI 1)]) (rest := []) CF (c_X6_transforms_3b l D cI h0 ae al ap az ar am np th xl xz i r w (by omega) (by omega) (by omega) (by omega) (by omega) (by omega) (by omega) (by omega) (by omega) (by exact hw2) (by omega) H.size) (cwV 4 hts gX6_backward_X6_transforms rfl rfl rfl (by decide +kernel) ⟨Nat.le_of_ble_eq_true rfl, Nat.le_of_ble_eq_true rfl⟩) (z_preV (va_recv hK hP (ci := 5) (q0 := 0) rfl rfl) hPc hDc hRc (z_dis (ws := [(h0, .inr (5, [.ref ae, .ref al, .ref ap, .ref az, .ref ar, .int (zI np), .ref am, .int (zI th)]))]) (rs := [(al, .inl (cI, 4, .inl (zA xl))), (az, .inl (cI, 8, .inl (zA xz)))]) (wc := [(h0, .inr (5, [.ref ae, .ref al, .ref ap, .ref az, .ref ar, .int (zI np), .ref am, .int (zI th)]))]) (rc := [(al, .inl (cI, 4, .inl (zA xl))), (az, .inl (cI, 8, .inl (zA xz)))]) hD hR0 (isC := [0]) (isR := [1, 2]) rfl rfl (by decide)) (hK.sub (tys' := [(cI, .int)]) [0] rfl)) rfl rfl hl.1 rfl (lv_room (Nat.le_of_ble_eq_true rfl)) dX6_backward_5 ⟨Nat.le_of_ble_eq_true rfl, Nat.le_of_ble_eq_true rfl⟩) hP hD hS hA [0] [] rfl rfl (by decide) (by decide) (cells' := 0) (slots' := 0) rfl rfl (fun u_5 H locs hp_5 hP hD hS => ?_)
  have hp_5 : True := hp_5
  have hP := hP.sub (ws' := [(h0, .inr (5, [.ref ae, .ref al, .ref ap, .ref az, .ref ar, .int (zI np), .ref am, .int (zI 3)]))]) [0] rfl
  have hD := hD.sub (ws' := [(h0, .inr (5, [.ref ae, .ref al, .ref ap, .ref az, .ref ar, .int (zI np), .ref am, .int (zI 3)]))]) [0] (by decide) rfl
  have hR := hR0.at hS
  exact z_iret hx hb hr hlocks rfl () (rfl) (trivial) hP hD hS dX6_backward_8

set_option maxHeartbeats 4000000 in
set_option maxRecDepth 100000 in
theorem c_X6_backward_ok (l : Launch) (D : va_G) (cI : ClassId) (h0 : Nat) (ae : Nat) (al : Nat) (ap : Nat) (az : Nat) (ar : Nat) (am : Nat) (np : Int) (th : Int) (xe : Int → Int) (xl : Int → Int) (xm : Int → Int) (xp : Int → Int) (xz : Int → Int) (xr : Int → Int) (i : Int) (r : Int) (w : Int) (ha_i : -2147483648 ≤ i ∧ i ≤ 2147483647) (ha_r : -2147483648 ≤ r ∧ r ≤ 2147483647) (ha_w : -2147483648 ≤ w ∧ w ≤ 2147483647) (hnp_ : 0 ≤ np ∧ np ≤ 8) (hi0 : 0 ≤ i ∧ i < np) (hz_ : 1 ≤ xz i ∧ xz i ≤ 64) (hp_ : 2 ≤ xp i ∧ xp i ≤ 10000) (hrt : 0 ≤ xr i ∧ xr i ≤ 10000) (hr_r : 0 ≤ r ∧ r < 4) (hxl_r : 0 ≤ xl r ∧ xl r ≤ 64) (hxe : ∀ k, 0 ≤ k → k < 256 → -1000000 ≤ xe k ∧ xe k ≤ 1000000) (hw_ : 0 ≤ w ∧ w ≤ 4) (hw2 : wset (xz i) / 2 ^ w.toNat % 2 = 1) (hlz : xl r ≤ xz i) : zC l yX6_backward wsX6_backward ({ frames := 4, cells := 0, slots := 0, locals := 103 } : Room) D [(cI, .int)] [(h0, .inr (5, [.ref ae, .ref al, .ref ap, .ref az, .ref ar, .int (zI np), .ref am, .int (zI th)])), (ae, .inl (cI, 256, .inl (zA xe))), (al, .inl (cI, 4, .inl (zA xl))), (am, .inl (cI, 64, .inl (zA xm)))] [(ap, .inl (cI, 8, .inl (zA xp))), (az, .inl (cI, 8, .inl (zA xz))), (ar, .inl (cI, 8, .inl (zA xr)))] [.ref h0, .int (zI i), .int (zI r), .int (zI w)] (S := (Int → Int) × (Int → Int)) (fun (xe2, xm2) => (∀ k, 0 ≤ k → k < xz i → xe2 (64 * r + k) = sumR (xp i) (xz i) (pwm (xr i) (xp i - 2) (xp i)) (fun j => rowAt (eRow xe r) (xl r) j % xp i) k * pwm (xz i) (xp i - 2) (xp i) % xp i) ∧ (∀ x, x < 64 * r ∨ 64 * r + xz i ≤ x → xe2 x = xe x)) (fun (xe2, xm2) => some (.int (zI (sumR (xp i) (xz i) (pwm (xr i) (xp i - 2) (xp i)) (fun j => rowAt (eRow xe r) (xl r) j % xp i) 0 * pwm (xz i) (xp i - 2) (xp i) % xp i)))) (fun (xe2, xm2) => [(h0, .inr (5, [.ref ae, .ref al, .ref ap, .ref az, .ref ar, .int (zI np), .ref am, .int (zI 0)])), (ae, .inl (cI, 256, .inl (zA xe2))), (al, .inl (cI, 4, .inl (zA (zU xl r (xz i))))), (am, .inl (cI, 64, .inl (zA xm2)))]) := by
  refine z_start (cc := cX6_backward) (maxL := 4) (ret := (some .int)) (own := RX6) (by decide) rfl rfl (Nat.le_of_ble_eq_true rfl) [(0, .ref h0), (1, .int (zI i)), (2, .int (zI r)), (3, .int (zI w))] rfl ?_
  intro pp ee s mm below meth cc A H ls hx hb hr hml hts hown hlocks hin hK hA hP hD hS hR0 hR hl
  have CF : CallFix pp mm cc cX6_backward 4 s ([.ref h0, .int (zI i), .int (zI r), .int (zI w)] : List Value).toArray wsX6_backward RX6 := ⟨hx, hb, hml, hown, hts⟩
  refine lv_aload_n hx hb dX6_backward_0 rfl (lv_at hl 0 rfl) ?_
  refine lv_iload_n hx hb dX6_backward_1 rfl (lv_at hl 1 rfl) ?_
  refine lv_iload_n hx hb dX6_backward_2 rfl (lv_at hl 2 rfl) ?_
  refine lv_iload_n hx hb dX6_backward_3 rfl (lv_at hl 3 rfl) ?_
  refine z_iconst hx hb dX6_backward_4 ?_
  have hRc := z_subR (ws := [(h0, .inr (5, [.ref ae, .ref al, .ref ap, .ref az, .ref ar, .int (zI np), .ref am, .int (zI th)])), (ae, .inl (cI, 256, .inl (zA xe))), (al, .inl (cI, 4, .inl (zA xl))), (am, .inl (cI, 64, .inl (zA xm)))]) (rs := [(ap, .inl (cI, 8, .inl (zA xp))), (az, .inl (cI, 8, .inl (zA xz))), (ar, .inl (cI, 8, .inl (zA xr)))]) (rc := [(ap, .inl (cI, 8, .inl (zA xp))), (az, .inl (cI, 8, .inl (zA xz))), (ar, .inl (cI, 8, .inl (zA xr)))]) hP hR (isR := [4, 5, 6]) rfl
  have hPc := hP.sub (ws' := [(h0, .inr (5, [.ref ae, .ref al, .ref ap, .ref az, .ref ar, .int (zI np), .ref am, .int (zI th)])), (ae, .inl (cI, 256, .inl (zA xe))), (al, .inl (cI, 4, .inl (zA xl))), (am, .inl (cI, 64, .inl (zA xm)))]) [0, 1, 2, 3] rfl
  have hDc := hD.sub (ws' := [(h0, .inr (5, [.ref ae, .ref al, .ref ap, .ref az, .ref ar, .int (zI np), .ref am, .int (zI th)])), (ae, .inl (cI, 256, .inl (zA xe))), (al, .inl (cI, 4, .inl (zA xl))), (am, .inl (cI, 64, .inl (zA xm)))]) [0, 1, 2, 3] (by decide) rfl
  refine z_mu (ws := [(h0, .inr (5, [.ref ae, .ref al, .ref ap, .ref az, .ref ar, .int (zI np), .ref am, .int (zI th)])), (ae, .inl (cI, 256, .inl (zA xe))), (al, .inl (cI, 4, .inl (zA xl))), (am, .inl (cI, 64, .inl (zA xm)))]) (wc := [(h0, .inr (5, [.ref ae, .ref al, .ref ap, .ref az, .ref ar, .int (zI np), .ref am, .int (zI th)])), (ae, .inl (cI, 256, .inl (zA xe))), (al, .inl (cI, 4, .inl (zA xl))), (am, .inl (cI, 64, .inl (zA xm)))]) (wr := []) (va_runV (As := [.int (zI i), .int (zI r), .int (zI w), .int (zI 1)]) (rest := []) CF (c_X6_transforms_okb l D cI h0 ae al ap az ar am np th xe xl xm xp xz xr i r w (by omega) (by omega) (by omega) (by omega) (by omega) (by omega) (by omega) (by omega) (by omega) (by omega) (by exact hxe) (by omega) (by exact hw2) (by omega) H.size) (cwV 4 hts gX6_backward_X6_transforms rfl rfl rfl (by decide +kernel) ⟨Nat.le_of_ble_eq_true rfl, Nat.le_of_ble_eq_true rfl⟩) (z_preV (va_recv hK hP (ci := 5) (q0 := 0) rfl rfl) hPc hDc hRc (z_dis (ws := [(h0, .inr (5, [.ref ae, .ref al, .ref ap, .ref az, .ref ar, .int (zI np), .ref am, .int (zI th)])), (ae, .inl (cI, 256, .inl (zA xe))), (al, .inl (cI, 4, .inl (zA xl))), (am, .inl (cI, 64, .inl (zA xm)))]) (rs := [(ap, .inl (cI, 8, .inl (zA xp))), (az, .inl (cI, 8, .inl (zA xz))), (ar, .inl (cI, 8, .inl (zA xr)))]) (wc := [(h0, .inr (5, [.ref ae, .ref al, .ref ap, .ref az, .ref ar, .int (zI np), .ref am, .int (zI th)])), (ae, .inl (cI, 256, .inl (zA xe))), (al, .inl (cI, 4, .inl (zA xl))), (am, .inl (cI, 64, .inl (zA xm)))]) (rc := [(ap, .inl (cI, 8, .inl (zA xp))), (az, .inl (cI, 8, .inl (zA xz))), (ar, .inl (cI, 8, .inl (zA xr)))]) hD hR0 (isC := [0, 1, 2, 3]) (isR := [4, 5, 6]) rfl rfl (by decide)) (hK.sub (tys' := [(cI, .int)]) [0] rfl)) rfl rfl hl.1 rfl (lv_room (Nat.le_of_ble_eq_true rfl)) dX6_backward_5 ⟨Nat.le_of_ble_eq_true rfl, Nat.le_of_ble_eq_true rfl⟩) hP hD hS hA [0, 1, 2, 3] [] rfl rfl (by decide) (by decide) (cells' := 0) (slots' := 0) rfl rfl (fun u_5 H locs hp_5 hP hD hS => ?_)
  obtain ⟨xe2_5, xm2_5⟩ := u_5
  have hp_5 : (∀ k, 0 ≤ k → k < xz i → xe2_5 (64 * r + k) = sumR (xp i) (xz i) (pwm (xr i) (xp i - 2) (xp i)) (fun j => rowAt (eRow xe r) (xl r) j % xp i) k * pwm (xz i) (xp i - 2) (xp i) % xp i) ∧ (∀ x, x < 64 * r ∨ 64 * r + xz i ≤ x → xe2_5 x = xe x) := hp_5
  have hP := hP.sub (ws' := [(h0, .inr (5, [.ref ae, .ref al, .ref ap, .ref az, .ref ar, .int (zI np), .ref am, .int (zI 0)])), (ae, .inl (cI, 256, .inl (zA xe2_5))), (al, .inl (cI, 4, .inl (zA (zU xl r (xz i))))), (am, .inl (cI, 64, .inl (zA xm2_5)))]) [0, 1, 2, 3] rfl
  have hD := hD.sub (ws' := [(h0, .inr (5, [.ref ae, .ref al, .ref ap, .ref az, .ref ar, .int (zI np), .ref am, .int (zI 0)])), (ae, .inl (cI, 256, .inl (zA xe2_5))), (al, .inl (cI, 4, .inl (zA (zU xl r (xz i))))), (am, .inl (cI, 64, .inl (zA xm2_5)))]) [0, 1, 2, 3] (by decide) rfl
  have hR := hR0.at hS
  exact z_iret hx hb hr hlocks rfl (xe2_5, xm2_5) (rfl) (by exact hp_5) hP hD hS dX6_backward_8

set_option maxHeartbeats 4000000 in
set_option maxRecDepth 100000 in
theorem c_X6_sum_1a (l : Launch) (D : va_G) (cI : ClassId) (h0 : Nat) (ae : Nat) (al : Nat) (ap : Nat) (az : Nat) (ar : Nat) (am : Nat) (np : Int) (th : Int) (i : Int) (r : Int) (x : Int) (ha_i : -2147483648 ≤ i ∧ i ≤ 2147483647) (ha_r : -2147483648 ≤ r ∧ r ≤ 2147483647) (ha_x : -2147483648 ≤ x ∧ x ≤ 2147483647) (hnp_ : 0 ≤ np ∧ np ≤ 8) (hi0 : ¬ (0 ≤ i ∧ i < np)) : zC l yX6_sum wsX6_sum ({ frames := 1, cells := 0, slots := 0, locals := 21 } : Room) D [(cI, .int)] [(h0, .inr (5, [.ref ae, .ref al, .ref ap, .ref az, .ref ar, .int (zI np), .ref am, .int (zI th)]))] [] [.ref h0, .int (zI i), .int (zI r), .int (zI x)] (S := Unit) (fun u => True) (fun u => some (.int (zI 0))) (fun u => [(h0, .inr (5, [.ref ae, .ref al, .ref ap, .ref az, .ref ar, .int (zI np), .ref am, .int (zI 1)]))]) := by
  refine z_start (cc := cX6_sum) (maxL := 4) (ret := (some .int)) (own := RX6) (by decide) rfl rfl (Nat.le_of_ble_eq_true rfl) [(0, .ref h0), (1, .int (zI i)), (2, .int (zI r)), (3, .int (zI x))] rfl ?_
  intro pp ee s mm below meth cc A H ls hx hb hr hml hts hown hlocks hin hK hA hP hD hS hR0 hR hl
  have CF : CallFix pp mm cc cX6_sum 4 s ([.ref h0, .int (zI i), .int (zI r), .int (zI x)] : List Value).toArray wsX6_sum RX6 := ⟨hx, hb, hml, hown, hts⟩
  have hi6 : ∀ w ∈ wsX60, w ∈ wsX6_sum := by decide +kernel
  refine lv_aload_n hx hb dX6_sum_0 rfl (lv_at hl 0 rfl) ?_
  refine lv_aload_n hx hb dX6_sum_1 rfl (lv_at hl 0 rfl) ?_
  refine lv_iload_n hx hb dX6_sum_2 rfl (lv_at hl 1 rfl) ?_
  have hRc := z_subR (ws := [(h0, .inr (5, [.ref ae, .ref al, .ref ap, .ref az, .ref ar, .int (zI np), .ref am, .int (zI th)]))]) (rs := []) (rc := [(h0, .inr (5, [.ref ae, .ref al, .ref ap, .ref az, .ref ar, .int (zI np), .ref am, .int (zI th)]))]) hP z_nilP (isR := [0]) rfl
  refine z_ro (ws := [(h0, .inr (5, [.ref ae, .ref al, .ref ap, .ref az, .ref ar, .int (zI np), .ref am, .int (zI th)]))]) (va_runV (As := [.int (zI i)]) (rest := [.ref h0]) CF (c_X6_isPlan l D h0 ae al ap az ar am np th i (by omega) (by omega) H.size) (cwV 1 hts gX6_sum_X6_isPlan rfl rfl rfl (by decide +kernel) ⟨Nat.le_of_ble_eq_true rfl, Nat.le_of_ble_eq_true rfl⟩) (z_preV (va_recv hK hP (ci := 5) (q0 := 0) rfl rfl) z_nilP (z_nilD (A := A)) hRc z_noX (hK.sub (tys' := []) [] rfl)) rfl rfl hl.1 rfl (lv_room (Nat.le_of_ble_eq_true rfl)) dX6_sum_3 ⟨Nat.le_of_ble_eq_true rfl, Nat.le_of_ble_eq_true rfl⟩) hP hS hA (cells' := 0) (slots' := 0) rfl rfl (fun H locs hP hS => ?_)
  refine z_ifB_eq (tgt := 30) hx hb dX6_sum_6 (by decide) (fun c_6 => ?_) (fun c_6 => absurd c_6 (by omega))
  refine z_iconst hx hb dX6_sum_30 ?_
  refine lv_goto (tgt := 54) hx hb dX6_sum_31 (by decide) ?_
  refine va_put (D := D) (ci := 5) (v := .int (zI 1)) (ty := .int) (C := RX6) (T := TX6) (N := 8) hx hb hts hi6 tyX6 tyX6_ok nmX6 hown hK hP hD hS 0 rfl rfl 7 (by decide) (hts (.fieldLink RX6 28 "ButterflyYardModel" "thrown" "I") (by decide +kernel)) (fun _ h9 => h9) rfl (by decide +kernel) rfl rfl (Nat.le_of_ble_eq_true rfl) dX6_sum_54 (fun H locs hP hD hS => ?_)
  have hP : va_P D vwCl [(h0, .inr (5, [.ref ae, .ref al, .ref ap, .ref az, .ref ar, .int (zI np), .ref am, .int (zI 1)]))] H := hP
  have hD : va_D A [(h0, .inr (5, [.ref ae, .ref al, .ref ap, .ref az, .ref ar, .int (zI np), .ref am, .int (zI 1)]))] := hD
  refine lv_aload_n hx hb dX6_sum_57 rfl (lv_at hl 0 rfl) ?_
  refine va_get (D := D) (ci := 5) (C := RX6) (T := TX6) (N := 8) hx hb hts hi6 hown hK hP 0 rfl rfl 7 (by decide) (hts (.fieldLink RX6 28 "ButterflyYardModel" "thrown" "I") (by decide +kernel)) (fun _ h9 => h9) rfl dX6_sum_58 ?_
  refine z_if_ne (tgt := 80) hx hb dX6_sum_61 (by decide) (by omega) (fun c_61 => ?_) (fun c_61 => absurd c_61 (by omega))
  refine z_iconst hx hb dX6_sum_80 ?_
  exact z_iret hx hb hr hlocks rfl () (rfl) (trivial) hP hD hS dX6_sum_81

set_option maxHeartbeats 4000000 in
set_option maxRecDepth 100000 in
theorem c_X6_sum_1b (l : Launch) (D : va_G) (cI : ClassId) (h0 : Nat) (ae : Nat) (al : Nat) (ap : Nat) (az : Nat) (ar : Nat) (am : Nat) (np : Int) (th : Int) (i : Int) (r : Int) (x : Int) (ha_i : -2147483648 ≤ i ∧ i ≤ 2147483647) (ha_r : -2147483648 ≤ r ∧ r ≤ 2147483647) (ha_x : -2147483648 ≤ x ∧ x ≤ 2147483647) (hnp_ : 0 ≤ np ∧ np ≤ 8) (hi0 : 0 ≤ i ∧ i < np) (hb_r : ¬ (0 ≤ r ∧ r < 4)) : zC l yX6_sum wsX6_sum ({ frames := 1, cells := 0, slots := 0, locals := 21 } : Room) D [(cI, .int)] [(h0, .inr (5, [.ref ae, .ref al, .ref ap, .ref az, .ref ar, .int (zI np), .ref am, .int (zI th)]))] [] [.ref h0, .int (zI i), .int (zI r), .int (zI x)] (S := Unit) (fun u => True) (fun u => some (.int (zI 0))) (fun u => [(h0, .inr (5, [.ref ae, .ref al, .ref ap, .ref az, .ref ar, .int (zI np), .ref am, .int (zI 1)]))]) := by
  refine z_start (cc := cX6_sum) (maxL := 4) (ret := (some .int)) (own := RX6) (by decide) rfl rfl (Nat.le_of_ble_eq_true rfl) [(0, .ref h0), (1, .int (zI i)), (2, .int (zI r)), (3, .int (zI x))] rfl ?_
  intro pp ee s mm below meth cc A H ls hx hb hr hml hts hown hlocks hin hK hA hP hD hS hR0 hR hl
  have CF : CallFix pp mm cc cX6_sum 4 s ([.ref h0, .int (zI i), .int (zI r), .int (zI x)] : List Value).toArray wsX6_sum RX6 := ⟨hx, hb, hml, hown, hts⟩
  have hi6 : ∀ w ∈ wsX60, w ∈ wsX6_sum := by decide +kernel
  refine lv_aload_n hx hb dX6_sum_0 rfl (lv_at hl 0 rfl) ?_
  refine lv_aload_n hx hb dX6_sum_1 rfl (lv_at hl 0 rfl) ?_
  refine lv_iload_n hx hb dX6_sum_2 rfl (lv_at hl 1 rfl) ?_
  have hRc := z_subR (ws := [(h0, .inr (5, [.ref ae, .ref al, .ref ap, .ref az, .ref ar, .int (zI np), .ref am, .int (zI th)]))]) (rs := []) (rc := [(h0, .inr (5, [.ref ae, .ref al, .ref ap, .ref az, .ref ar, .int (zI np), .ref am, .int (zI th)]))]) hP z_nilP (isR := [0]) rfl
  refine z_ro (ws := [(h0, .inr (5, [.ref ae, .ref al, .ref ap, .ref az, .ref ar, .int (zI np), .ref am, .int (zI th)]))]) (va_runV (As := [.int (zI i)]) (rest := [.ref h0]) CF (c_X6_isPlan l D h0 ae al ap az ar am np th i (by omega) (by omega) H.size) (cwV 1 hts gX6_sum_X6_isPlan rfl rfl rfl (by decide +kernel) ⟨Nat.le_of_ble_eq_true rfl, Nat.le_of_ble_eq_true rfl⟩) (z_preV (va_recv hK hP (ci := 5) (q0 := 0) rfl rfl) z_nilP (z_nilD (A := A)) hRc z_noX (hK.sub (tys' := []) [] rfl)) rfl rfl hl.1 rfl (lv_room (Nat.le_of_ble_eq_true rfl)) dX6_sum_3 ⟨Nat.le_of_ble_eq_true rfl, Nat.le_of_ble_eq_true rfl⟩) hP hS hA (cells' := 0) (slots' := 0) rfl rfl (fun H locs hP hS => ?_)
  refine z_ifB_eq (tgt := 30) hx hb dX6_sum_6 (by decide) (fun c_6 => absurd c_6 (by omega)) (fun c_6 => ?_)
  refine lv_iload_n hx hb dX6_sum_9 rfl (lv_at hl 2 rfl) ?_
  have hRc : va_P D vwCl [] H := z_nilP
  refine z_ro (ws := [(h0, .inr (5, [.ref ae, .ref al, .ref ap, .ref az, .ref ar, .int (zI np), .ref am, .int (zI th)]))]) (va_runS (As := [.int (zI r)]) (rest := [.ref h0]) CF (c_X6_isRow l D r (by omega) H.size) (va_cwS 1 hts gX6_sum_X6_isRow rfl rfl rfl (by decide +kernel) ⟨Nat.le_of_ble_eq_true rfl, Nat.le_of_ble_eq_true rfl⟩) (z_preS z_nilP (z_nilD (A := A)) hRc z_noX (hK.sub (tys' := []) [] rfl)) rfl rfl hl.1 rfl (lv_room (Nat.le_of_ble_eq_true rfl)) dX6_sum_10 ⟨Nat.le_of_ble_eq_true rfl, Nat.le_of_ble_eq_true rfl⟩) hP hS hA (cells' := 0) (slots' := 0) rfl rfl (fun H locs hP hS => ?_)
  refine z_ifB_eq (tgt := 30) hx hb dX6_sum_13 (by decide) (fun c_13 => ?_) (fun c_13 => absurd c_13 (by omega))
  refine z_iconst hx hb dX6_sum_30 ?_
  refine lv_goto (tgt := 54) hx hb dX6_sum_31 (by decide) ?_
  refine va_put (D := D) (ci := 5) (v := .int (zI 1)) (ty := .int) (C := RX6) (T := TX6) (N := 8) hx hb hts hi6 tyX6 tyX6_ok nmX6 hown hK hP hD hS 0 rfl rfl 7 (by decide) (hts (.fieldLink RX6 28 "ButterflyYardModel" "thrown" "I") (by decide +kernel)) (fun _ h9 => h9) rfl (by decide +kernel) rfl rfl (Nat.le_of_ble_eq_true rfl) dX6_sum_54 (fun H locs hP hD hS => ?_)
  have hP : va_P D vwCl [(h0, .inr (5, [.ref ae, .ref al, .ref ap, .ref az, .ref ar, .int (zI np), .ref am, .int (zI 1)]))] H := hP
  have hD : va_D A [(h0, .inr (5, [.ref ae, .ref al, .ref ap, .ref az, .ref ar, .int (zI np), .ref am, .int (zI 1)]))] := hD
  refine lv_aload_n hx hb dX6_sum_57 rfl (lv_at hl 0 rfl) ?_
  refine va_get (D := D) (ci := 5) (C := RX6) (T := TX6) (N := 8) hx hb hts hi6 hown hK hP 0 rfl rfl 7 (by decide) (hts (.fieldLink RX6 28 "ButterflyYardModel" "thrown" "I") (by decide +kernel)) (fun _ h9 => h9) rfl dX6_sum_58 ?_
  refine z_if_ne (tgt := 80) hx hb dX6_sum_61 (by decide) (by omega) (fun c_61 => ?_) (fun c_61 => absurd c_61 (by omega))
  refine z_iconst hx hb dX6_sum_80 ?_
  exact z_iret hx hb hr hlocks rfl () (rfl) (trivial) hP hD hS dX6_sum_81

set_option maxHeartbeats 4000000 in
set_option maxRecDepth 100000 in
theorem c_X6_sum_1c (l : Launch) (D : va_G) (cI : ClassId) (h0 : Nat) (ae : Nat) (al : Nat) (ap : Nat) (az : Nat) (ar : Nat) (am : Nat) (np : Int) (th : Int) (i : Int) (r : Int) (x : Int) (ha_i : -2147483648 ≤ i ∧ i ≤ 2147483647) (ha_r : -2147483648 ≤ r ∧ r ≤ 2147483647) (ha_x : -2147483648 ≤ x ∧ x ≤ 2147483647) (hnp_ : 0 ≤ np ∧ np ≤ 8) (hi0 : 0 ≤ i ∧ i < np) (hr_r : 0 ≤ r ∧ r < 4) (hx_ : x < 0) : zC l yX6_sum wsX6_sum ({ frames := 1, cells := 0, slots := 0, locals := 21 } : Room) D [(cI, .int)] [(h0, .inr (5, [.ref ae, .ref al, .ref ap, .ref az, .ref ar, .int (zI np), .ref am, .int (zI th)]))] [] [.ref h0, .int (zI i), .int (zI r), .int (zI x)] (S := Unit) (fun u => True) (fun u => some (.int (zI 0))) (fun u => [(h0, .inr (5, [.ref ae, .ref al, .ref ap, .ref az, .ref ar, .int (zI np), .ref am, .int (zI 1)]))]) := by
  refine z_start (cc := cX6_sum) (maxL := 4) (ret := (some .int)) (own := RX6) (by decide) rfl rfl (Nat.le_of_ble_eq_true rfl) [(0, .ref h0), (1, .int (zI i)), (2, .int (zI r)), (3, .int (zI x))] rfl ?_
  intro pp ee s mm below meth cc A H ls hx hb hr hml hts hown hlocks hin hK hA hP hD hS hR0 hR hl
  have CF : CallFix pp mm cc cX6_sum 4 s ([.ref h0, .int (zI i), .int (zI r), .int (zI x)] : List Value).toArray wsX6_sum RX6 := ⟨hx, hb, hml, hown, hts⟩
  have hi6 : ∀ w ∈ wsX60, w ∈ wsX6_sum := by decide +kernel
  refine lv_aload_n hx hb dX6_sum_0 rfl (lv_at hl 0 rfl) ?_
  refine lv_aload_n hx hb dX6_sum_1 rfl (lv_at hl 0 rfl) ?_
  refine lv_iload_n hx hb dX6_sum_2 rfl (lv_at hl 1 rfl) ?_
  have hRc := z_subR (ws := [(h0, .inr (5, [.ref ae, .ref al, .ref ap, .ref az, .ref ar, .int (zI np), .ref am, .int (zI th)]))]) (rs := []) (rc := [(h0, .inr (5, [.ref ae, .ref al, .ref ap, .ref az, .ref ar, .int (zI np), .ref am, .int (zI th)]))]) hP z_nilP (isR := [0]) rfl
  refine z_ro (ws := [(h0, .inr (5, [.ref ae, .ref al, .ref ap, .ref az, .ref ar, .int (zI np), .ref am, .int (zI th)]))]) (va_runV (As := [.int (zI i)]) (rest := [.ref h0]) CF (c_X6_isPlan l D h0 ae al ap az ar am np th i (by omega) (by omega) H.size) (cwV 1 hts gX6_sum_X6_isPlan rfl rfl rfl (by decide +kernel) ⟨Nat.le_of_ble_eq_true rfl, Nat.le_of_ble_eq_true rfl⟩) (z_preV (va_recv hK hP (ci := 5) (q0 := 0) rfl rfl) z_nilP (z_nilD (A := A)) hRc z_noX (hK.sub (tys' := []) [] rfl)) rfl rfl hl.1 rfl (lv_room (Nat.le_of_ble_eq_true rfl)) dX6_sum_3 ⟨Nat.le_of_ble_eq_true rfl, Nat.le_of_ble_eq_true rfl⟩) hP hS hA (cells' := 0) (slots' := 0) rfl rfl (fun H locs hP hS => ?_)
  refine z_ifB_eq (tgt := 30) hx hb dX6_sum_6 (by decide) (fun c_6 => absurd c_6 (by omega)) (fun c_6 => ?_)
  refine lv_iload_n hx hb dX6_sum_9 rfl (lv_at hl 2 rfl) ?_
  have hRc : va_P D vwCl [] H := z_nilP
  refine z_ro (ws := [(h0, .inr (5, [.ref ae, .ref al, .ref ap, .ref az, .ref ar, .int (zI np), .ref am, .int (zI th)]))]) (va_runS (As := [.int (zI r)]) (rest := [.ref h0]) CF (c_X6_isRow l D r (by omega) H.size) (va_cwS 1 hts gX6_sum_X6_isRow rfl rfl rfl (by decide +kernel) ⟨Nat.le_of_ble_eq_true rfl, Nat.le_of_ble_eq_true rfl⟩) (z_preS z_nilP (z_nilD (A := A)) hRc z_noX (hK.sub (tys' := []) [] rfl)) rfl rfl hl.1 rfl (lv_room (Nat.le_of_ble_eq_true rfl)) dX6_sum_10 ⟨Nat.le_of_ble_eq_true rfl, Nat.le_of_ble_eq_true rfl⟩) hP hS hA (cells' := 0) (slots' := 0) rfl rfl (fun H locs hP hS => ?_)
  refine z_ifB_eq (tgt := 30) hx hb dX6_sum_13 (by decide) (fun c_13 => absurd c_13 (by omega)) (fun c_13 => ?_)
  refine lv_iload_n hx hb dX6_sum_16 rfl (lv_at hl 3 rfl) ?_
  refine z_if_lt (tgt := 30) hx hb dX6_sum_17 (by decide) (by omega) (fun c_17 => ?_) (fun c_17 => absurd c_17 (by omega))
  refine z_iconst hx hb dX6_sum_30 ?_
  refine lv_goto (tgt := 54) hx hb dX6_sum_31 (by decide) ?_
  refine va_put (D := D) (ci := 5) (v := .int (zI 1)) (ty := .int) (C := RX6) (T := TX6) (N := 8) hx hb hts hi6 tyX6 tyX6_ok nmX6 hown hK hP hD hS 0 rfl rfl 7 (by decide) (hts (.fieldLink RX6 28 "ButterflyYardModel" "thrown" "I") (by decide +kernel)) (fun _ h9 => h9) rfl (by decide +kernel) rfl rfl (Nat.le_of_ble_eq_true rfl) dX6_sum_54 (fun H locs hP hD hS => ?_)
  have hP : va_P D vwCl [(h0, .inr (5, [.ref ae, .ref al, .ref ap, .ref az, .ref ar, .int (zI np), .ref am, .int (zI 1)]))] H := hP
  have hD : va_D A [(h0, .inr (5, [.ref ae, .ref al, .ref ap, .ref az, .ref ar, .int (zI np), .ref am, .int (zI 1)]))] := hD
  refine lv_aload_n hx hb dX6_sum_57 rfl (lv_at hl 0 rfl) ?_
  refine va_get (D := D) (ci := 5) (C := RX6) (T := TX6) (N := 8) hx hb hts hi6 hown hK hP 0 rfl rfl 7 (by decide) (hts (.fieldLink RX6 28 "ButterflyYardModel" "thrown" "I") (by decide +kernel)) (fun _ h9 => h9) rfl dX6_sum_58 ?_
  refine z_if_ne (tgt := 80) hx hb dX6_sum_61 (by decide) (by omega) (fun c_61 => ?_) (fun c_61 => absurd c_61 (by omega))
  refine z_iconst hx hb dX6_sum_80 ?_
  exact z_iret hx hb hr hlocks rfl () (rfl) (trivial) hP hD hS dX6_sum_81

set_option maxHeartbeats 4000000 in
set_option maxRecDepth 100000 in
theorem c_X6_sum_1d (l : Launch) (D : va_G) (cI : ClassId) (h0 : Nat) (ae : Nat) (al : Nat) (ap : Nat) (az : Nat) (ar : Nat) (am : Nat) (np : Int) (th : Int) (xz : Int → Int) (i : Int) (r : Int) (x : Int) (ha_i : -2147483648 ≤ i ∧ i ≤ 2147483647) (ha_r : -2147483648 ≤ r ∧ r ≤ 2147483647) (ha_x : -2147483648 ≤ x ∧ x ≤ 2147483647) (hnp_ : 0 ≤ np ∧ np ≤ 8) (hi0 : 0 ≤ i ∧ i < np) (hz_ : 1 ≤ xz i ∧ xz i ≤ 64) (hr_r : 0 ≤ r ∧ r < 4) (hx_ : xz i ≤ x) : zC l yX6_sum wsX6_sum ({ frames := 1, cells := 0, slots := 0, locals := 21 } : Room) D [(cI, .int)] [(h0, .inr (5, [.ref ae, .ref al, .ref ap, .ref az, .ref ar, .int (zI np), .ref am, .int (zI th)]))] [(az, .inl (cI, 8, .inl (zA xz)))] [.ref h0, .int (zI i), .int (zI r), .int (zI x)] (S := Unit) (fun u => True) (fun u => some (.int (zI 0))) (fun u => [(h0, .inr (5, [.ref ae, .ref al, .ref ap, .ref az, .ref ar, .int (zI np), .ref am, .int (zI 1)]))]) := by
  refine z_start (cc := cX6_sum) (maxL := 4) (ret := (some .int)) (own := RX6) (by decide) rfl rfl (Nat.le_of_ble_eq_true rfl) [(0, .ref h0), (1, .int (zI i)), (2, .int (zI r)), (3, .int (zI x))] rfl ?_
  intro pp ee s mm below meth cc A H ls hx hb hr hml hts hown hlocks hin hK hA hP hD hS hR0 hR hl
  have CF : CallFix pp mm cc cX6_sum 4 s ([.ref h0, .int (zI i), .int (zI r), .int (zI x)] : List Value).toArray wsX6_sum RX6 := ⟨hx, hb, hml, hown, hts⟩
  have hi6 : ∀ w ∈ wsX60, w ∈ wsX6_sum := by decide +kernel
  refine lv_aload_n hx hb dX6_sum_0 rfl (lv_at hl 0 rfl) ?_
  refine lv_aload_n hx hb dX6_sum_1 rfl (lv_at hl 0 rfl) ?_
  refine lv_iload_n hx hb dX6_sum_2 rfl (lv_at hl 1 rfl) ?_
  have hRc := z_subR (ws := [(h0, .inr (5, [.ref ae, .ref al, .ref ap, .ref az, .ref ar, .int (zI np), .ref am, .int (zI th)]))]) (rs := [(az, .inl (cI, 8, .inl (zA xz)))]) (rc := [(h0, .inr (5, [.ref ae, .ref al, .ref ap, .ref az, .ref ar, .int (zI np), .ref am, .int (zI th)]))]) hP hR (isR := [0]) rfl
  refine z_ro (ws := [(h0, .inr (5, [.ref ae, .ref al, .ref ap, .ref az, .ref ar, .int (zI np), .ref am, .int (zI th)]))]) (va_runV (As := [.int (zI i)]) (rest := [.ref h0]) CF (c_X6_isPlan l D h0 ae al ap az ar am np th i (by omega) (by omega) H.size) (cwV 1 hts gX6_sum_X6_isPlan rfl rfl rfl (by decide +kernel) ⟨Nat.le_of_ble_eq_true rfl, Nat.le_of_ble_eq_true rfl⟩) (z_preV (va_recv hK hP (ci := 5) (q0 := 0) rfl rfl) z_nilP (z_nilD (A := A)) hRc z_noX (hK.sub (tys' := []) [] rfl)) rfl rfl hl.1 rfl (lv_room (Nat.le_of_ble_eq_true rfl)) dX6_sum_3 ⟨Nat.le_of_ble_eq_true rfl, Nat.le_of_ble_eq_true rfl⟩) hP hS hA (cells' := 0) (slots' := 0) rfl rfl (fun H locs hP hS => ?_)
  have hR := hR0.at hS
  refine z_ifB_eq (tgt := 30) hx hb dX6_sum_6 (by decide) (fun c_6 => absurd c_6 (by omega)) (fun c_6 => ?_)
  refine lv_iload_n hx hb dX6_sum_9 rfl (lv_at hl 2 rfl) ?_
  have hRc : va_P D vwCl [] H := z_nilP
  refine z_ro (ws := [(h0, .inr (5, [.ref ae, .ref al, .ref ap, .ref az, .ref ar, .int (zI np), .ref am, .int (zI th)]))]) (va_runS (As := [.int (zI r)]) (rest := [.ref h0]) CF (c_X6_isRow l D r (by omega) H.size) (va_cwS 1 hts gX6_sum_X6_isRow rfl rfl rfl (by decide +kernel) ⟨Nat.le_of_ble_eq_true rfl, Nat.le_of_ble_eq_true rfl⟩) (z_preS z_nilP (z_nilD (A := A)) hRc z_noX (hK.sub (tys' := []) [] rfl)) rfl rfl hl.1 rfl (lv_room (Nat.le_of_ble_eq_true rfl)) dX6_sum_10 ⟨Nat.le_of_ble_eq_true rfl, Nat.le_of_ble_eq_true rfl⟩) hP hS hA (cells' := 0) (slots' := 0) rfl rfl (fun H locs hP hS => ?_)
  have hR := hR0.at hS
  refine z_ifB_eq (tgt := 30) hx hb dX6_sum_13 (by decide) (fun c_13 => absurd c_13 (by omega)) (fun c_13 => ?_)
  refine lv_iload_n hx hb dX6_sum_16 rfl (lv_at hl 3 rfl) ?_
  refine z_if_lt (tgt := 30) hx hb dX6_sum_17 (by decide) (by omega) (fun c_17 => absurd c_17 (by omega)) (fun c_17 => ?_)
  refine lv_iload_n hx hb dX6_sum_20 rfl (lv_at hl 3 rfl) ?_
  refine lv_aload_n hx hb dX6_sum_21 rfl (lv_at hl 0 rfl) ?_
  refine va_get (D := D) (ci := 5) (C := RX6) (T := TX6) (N := 8) hx hb hts hi6 hown hK hP 0 rfl rfl 3 (by decide) (hts (.fieldLink RX6 19 "ButterflyYardModel" "sizes" "[I") (by decide +kernel)) (fun _ h9 => h9) rfl dX6_sum_22 ?_
  refine lv_iload_n hx hb dX6_sum_25 rfl (lv_at hl 1 rfl) ?_
  refine z_iald (cA := cI) (n := 8) (g := xz) hx hb hK hR 0 0 rfl rfl rfl (by omega) dX6_sum_26 ?_
  refine z_icmp_lt (tgt := 34) hx hb dX6_sum_27 (by decide) (by omega) (fun c_27 => absurd c_27 (by omega)) (fun c_27 => ?_)
  refine z_iconst hx hb dX6_sum_30 ?_
  refine lv_goto (tgt := 54) hx hb dX6_sum_31 (by decide) ?_
  refine va_put (D := D) (ci := 5) (v := .int (zI 1)) (ty := .int) (C := RX6) (T := TX6) (N := 8) hx hb hts hi6 tyX6 tyX6_ok nmX6 hown hK hP hD hS 0 rfl rfl 7 (by decide) (hts (.fieldLink RX6 28 "ButterflyYardModel" "thrown" "I") (by decide +kernel)) (fun _ h9 => h9) rfl (by decide +kernel) rfl rfl (Nat.le_of_ble_eq_true rfl) dX6_sum_54 (fun H locs hP hD hS => ?_)
  have hP : va_P D vwCl [(h0, .inr (5, [.ref ae, .ref al, .ref ap, .ref az, .ref ar, .int (zI np), .ref am, .int (zI 1)]))] H := hP
  have hD : va_D A [(h0, .inr (5, [.ref ae, .ref al, .ref ap, .ref az, .ref ar, .int (zI np), .ref am, .int (zI 1)]))] := hD
  have hR := hR0.at hS
  refine lv_aload_n hx hb dX6_sum_57 rfl (lv_at hl 0 rfl) ?_
  refine va_get (D := D) (ci := 5) (C := RX6) (T := TX6) (N := 8) hx hb hts hi6 hown hK hP 0 rfl rfl 7 (by decide) (hts (.fieldLink RX6 28 "ButterflyYardModel" "thrown" "I") (by decide +kernel)) (fun _ h9 => h9) rfl dX6_sum_58 ?_
  refine z_if_ne (tgt := 80) hx hb dX6_sum_61 (by decide) (by omega) (fun c_61 => ?_) (fun c_61 => absurd c_61 (by omega))
  refine z_iconst hx hb dX6_sum_80 ?_
  exact z_iret hx hb hr hlocks rfl () (rfl) (trivial) hP hD hS dX6_sum_81

set_option maxHeartbeats 4000000 in
set_option maxRecDepth 100000 in
theorem c_X6_sum_2 (l : Launch) (D : va_G) (cI : ClassId) (h0 : Nat) (ae : Nat) (al : Nat) (ap : Nat) (az : Nat) (ar : Nat) (am : Nat) (np : Int) (th : Int) (xl : Int → Int) (xz : Int → Int) (i : Int) (r : Int) (x : Int) (ha_i : -2147483648 ≤ i ∧ i ≤ 2147483647) (ha_r : -2147483648 ≤ r ∧ r ≤ 2147483647) (ha_x : -2147483648 ≤ x ∧ x ≤ 2147483647) (hnp_ : 0 ≤ np ∧ np ≤ 8) (hi0 : 0 ≤ i ∧ i < np) (hz_ : 1 ≤ xz i ∧ xz i ≤ 64) (hr_r : 0 ≤ r ∧ r < 4) (hxl_r : 0 ≤ xl r ∧ xl r ≤ 64) (hx_ : 0 ≤ x ∧ x < xz i) (hlz : xz i < xl r) : zC l yX6_sum wsX6_sum ({ frames := 1, cells := 0, slots := 0, locals := 21 } : Room) D [(cI, .int)] [(h0, .inr (5, [.ref ae, .ref al, .ref ap, .ref az, .ref ar, .int (zI np), .ref am, .int (zI th)]))] [(al, .inl (cI, 4, .inl (zA xl))), (az, .inl (cI, 8, .inl (zA xz)))] [.ref h0, .int (zI i), .int (zI r), .int (zI x)] (S := Unit) (fun u => True) (fun u => some (.int (zI 0))) (fun u => [(h0, .inr (5, [.ref ae, .ref al, .ref ap, .ref az, .ref ar, .int (zI np), .ref am, .int (zI 2)]))]) := by
  refine z_start (cc := cX6_sum) (maxL := 4) (ret := (some .int)) (own := RX6) (by decide) rfl rfl (Nat.le_of_ble_eq_true rfl) [(0, .ref h0), (1, .int (zI i)), (2, .int (zI r)), (3, .int (zI x))] rfl ?_
  intro pp ee s mm below meth cc A H ls hx hb hr hml hts hown hlocks hin hK hA hP hD hS hR0 hR hl
  have CF : CallFix pp mm cc cX6_sum 4 s ([.ref h0, .int (zI i), .int (zI r), .int (zI x)] : List Value).toArray wsX6_sum RX6 := ⟨hx, hb, hml, hown, hts⟩
  have hi6 : ∀ w ∈ wsX60, w ∈ wsX6_sum := by decide +kernel
  refine lv_aload_n hx hb dX6_sum_0 rfl (lv_at hl 0 rfl) ?_
  refine lv_aload_n hx hb dX6_sum_1 rfl (lv_at hl 0 rfl) ?_
  refine lv_iload_n hx hb dX6_sum_2 rfl (lv_at hl 1 rfl) ?_
  have hRc := z_subR (ws := [(h0, .inr (5, [.ref ae, .ref al, .ref ap, .ref az, .ref ar, .int (zI np), .ref am, .int (zI th)]))]) (rs := [(al, .inl (cI, 4, .inl (zA xl))), (az, .inl (cI, 8, .inl (zA xz)))]) (rc := [(h0, .inr (5, [.ref ae, .ref al, .ref ap, .ref az, .ref ar, .int (zI np), .ref am, .int (zI th)]))]) hP hR (isR := [0]) rfl
  refine z_ro (ws := [(h0, .inr (5, [.ref ae, .ref al, .ref ap, .ref az, .ref ar, .int (zI np), .ref am, .int (zI th)]))]) (va_runV (As := [.int (zI i)]) (rest := [.ref h0]) CF (c_X6_isPlan l D h0 ae al ap az ar am np th i (by omega) (by omega) H.size) (cwV 1 hts gX6_sum_X6_isPlan rfl rfl rfl (by decide +kernel) ⟨Nat.le_of_ble_eq_true rfl, Nat.le_of_ble_eq_true rfl⟩) (z_preV (va_recv hK hP (ci := 5) (q0 := 0) rfl rfl) z_nilP (z_nilD (A := A)) hRc z_noX (hK.sub (tys' := []) [] rfl)) rfl rfl hl.1 rfl (lv_room (Nat.le_of_ble_eq_true rfl)) dX6_sum_3 ⟨Nat.le_of_ble_eq_true rfl, Nat.le_of_ble_eq_true rfl⟩) hP hS hA (cells' := 0) (slots' := 0) rfl rfl (fun H locs hP hS => ?_)
  have hR := hR0.at hS
  refine z_ifB_eq (tgt := 30) hx hb dX6_sum_6 (by decide) (fun c_6 => absurd c_6 (by omega)) (fun c_6 => ?_)
  refine lv_iload_n hx hb dX6_sum_9 rfl (lv_at hl 2 rfl) ?_
  have hRc : va_P D vwCl [] H := z_nilP
  refine z_ro (ws := [(h0, .inr (5, [.ref ae, .ref al, .ref ap, .ref az, .ref ar, .int (zI np), .ref am, .int (zI th)]))]) (va_runS (As := [.int (zI r)]) (rest := [.ref h0]) CF (c_X6_isRow l D r (by omega) H.size) (va_cwS 1 hts gX6_sum_X6_isRow rfl rfl rfl (by decide +kernel) ⟨Nat.le_of_ble_eq_true rfl, Nat.le_of_ble_eq_true rfl⟩) (z_preS z_nilP (z_nilD (A := A)) hRc z_noX (hK.sub (tys' := []) [] rfl)) rfl rfl hl.1 rfl (lv_room (Nat.le_of_ble_eq_true rfl)) dX6_sum_10 ⟨Nat.le_of_ble_eq_true rfl, Nat.le_of_ble_eq_true rfl⟩) hP hS hA (cells' := 0) (slots' := 0) rfl rfl (fun H locs hP hS => ?_)
  have hR := hR0.at hS
  refine z_ifB_eq (tgt := 30) hx hb dX6_sum_13 (by decide) (fun c_13 => absurd c_13 (by omega)) (fun c_13 => ?_)
  refine lv_iload_n hx hb dX6_sum_16 rfl (lv_at hl 3 rfl) ?_
  refine z_if_lt (tgt := 30) hx hb dX6_sum_17 (by decide) (by omega) (fun c_17 => absurd c_17 (by omega)) (fun c_17 => ?_)
  refine lv_iload_n hx hb dX6_sum_20 rfl (lv_at hl 3 rfl) ?_
  refine lv_aload_n hx hb dX6_sum_21 rfl (lv_at hl 0 rfl) ?_
  refine va_get (D := D) (ci := 5) (C := RX6) (T := TX6) (N := 8) hx hb hts hi6 hown hK hP 0 rfl rfl 3 (by decide) (hts (.fieldLink RX6 19 "ButterflyYardModel" "sizes" "[I") (by decide +kernel)) (fun _ h9 => h9) rfl dX6_sum_22 ?_
  refine lv_iload_n hx hb dX6_sum_25 rfl (lv_at hl 1 rfl) ?_
  refine z_iald (cA := cI) (n := 8) (g := xz) hx hb hK hR 1 0 rfl rfl rfl (by omega) dX6_sum_26 ?_
  refine z_icmp_lt (tgt := 34) hx hb dX6_sum_27 (by decide) (by omega) (fun c_27 => ?_) (fun c_27 => absurd c_27 (by omega))
  refine lv_aload_n hx hb dX6_sum_34 rfl (lv_at hl 0 rfl) ?_
  refine va_get (D := D) (ci := 5) (C := RX6) (T := TX6) (N := 8) hx hb hts hi6 hown hK hP 0 rfl rfl 1 (by decide) (hts (.fieldLink RX6 13 "ButterflyYardModel" "lengths" "[I") (by decide +kernel)) (fun _ h9 => h9) rfl dX6_sum_35 ?_
  refine lv_iload_n hx hb dX6_sum_38 rfl (lv_at hl 2 rfl) ?_
  refine z_iald (cA := cI) (n := 4) (g := xl) hx hb hK hR 0 0 rfl rfl rfl (by omega) dX6_sum_39 ?_
  refine lv_aload_n hx hb dX6_sum_40 rfl (lv_at hl 0 rfl) ?_
  refine va_get (D := D) (ci := 5) (C := RX6) (T := TX6) (N := 8) hx hb hts hi6 hown hK hP 0 rfl rfl 3 (by decide) (hts (.fieldLink RX6 19 "ButterflyYardModel" "sizes" "[I") (by decide +kernel)) (fun _ h9 => h9) rfl dX6_sum_41 ?_
  refine lv_iload_n hx hb dX6_sum_44 rfl (lv_at hl 1 rfl) ?_
  refine z_iald (cA := cI) (n := 8) (g := xz) hx hb hK hR 1 0 rfl rfl rfl (by omega) dX6_sum_45 ?_
  refine z_icmp_le (tgt := 53) hx hb dX6_sum_46 (by decide) (by omega) (fun c_46 => absurd c_46 (by omega)) (fun c_46 => ?_)
  refine z_iconst hx hb dX6_sum_49 ?_
  refine lv_goto (tgt := 54) hx hb dX6_sum_50 (by decide) ?_
  refine va_put (D := D) (ci := 5) (v := .int (zI 2)) (ty := .int) (C := RX6) (T := TX6) (N := 8) hx hb hts hi6 tyX6 tyX6_ok nmX6 hown hK hP hD hS 0 rfl rfl 7 (by decide) (hts (.fieldLink RX6 28 "ButterflyYardModel" "thrown" "I") (by decide +kernel)) (fun _ h9 => h9) rfl (by decide +kernel) rfl rfl (Nat.le_of_ble_eq_true rfl) dX6_sum_54 (fun H locs hP hD hS => ?_)
  have hP : va_P D vwCl [(h0, .inr (5, [.ref ae, .ref al, .ref ap, .ref az, .ref ar, .int (zI np), .ref am, .int (zI 2)]))] H := hP
  have hD : va_D A [(h0, .inr (5, [.ref ae, .ref al, .ref ap, .ref az, .ref ar, .int (zI np), .ref am, .int (zI 2)]))] := hD
  have hR := hR0.at hS
  refine lv_aload_n hx hb dX6_sum_57 rfl (lv_at hl 0 rfl) ?_
  refine va_get (D := D) (ci := 5) (C := RX6) (T := TX6) (N := 8) hx hb hts hi6 hown hK hP 0 rfl rfl 7 (by decide) (hts (.fieldLink RX6 28 "ButterflyYardModel" "thrown" "I") (by decide +kernel)) (fun _ h9 => h9) rfl dX6_sum_58 ?_
  refine z_if_ne (tgt := 80) hx hb dX6_sum_61 (by decide) (by omega) (fun c_61 => ?_) (fun c_61 => absurd c_61 (by omega))
  refine z_iconst hx hb dX6_sum_80 ?_
  exact z_iret hx hb hr hlocks rfl () (rfl) (trivial) hP hD hS dX6_sum_81

set_option maxHeartbeats 4000000 in
set_option maxRecDepth 100000 in
theorem c_X6_sum_ok (l : Launch) (D : va_G) (cI : ClassId) (h0 : Nat) (ae : Nat) (al : Nat) (ap : Nat) (az : Nat) (ar : Nat) (am : Nat) (np : Int) (th : Int) (xe : Int → Int) (xl : Int → Int) (xp : Int → Int) (xz : Int → Int) (xr : Int → Int) (i : Int) (r : Int) (x : Int) (ha_i : -2147483648 ≤ i ∧ i ≤ 2147483647) (ha_r : -2147483648 ≤ r ∧ r ≤ 2147483647) (ha_x : -2147483648 ≤ x ∧ x ≤ 2147483647) (hnp_ : 0 ≤ np ∧ np ≤ 8) (hi0 : 0 ≤ i ∧ i < np) (hz_ : 1 ≤ xz i ∧ xz i ≤ 64) (hp_ : 2 ≤ xp i ∧ xp i ≤ 10000) (hrt : 0 ≤ xr i ∧ xr i ≤ 10000) (hr_r : 0 ≤ r ∧ r < 4) (hxl_r : 0 ≤ xl r ∧ xl r ≤ 64) (hxe : ∀ k, 0 ≤ k → k < 256 → -1000000 ≤ xe k ∧ xe k ≤ 1000000) (hx_ : 0 ≤ x ∧ x < xz i) (hlz : xl r ≤ xz i) : zC l yX6_sum wsX6_sum ({ frames := 3, cells := 0, slots := 0, locals := 74 } : Room) D [(cI, .int)] [(h0, .inr (5, [.ref ae, .ref al, .ref ap, .ref az, .ref ar, .int (zI np), .ref am, .int (zI th)]))] [(ae, .inl (cI, 256, .inl (zA xe))), (al, .inl (cI, 4, .inl (zA xl))), (ap, .inl (cI, 8, .inl (zA xp))), (az, .inl (cI, 8, .inl (zA xz))), (ar, .inl (cI, 8, .inl (zA xr)))] [.ref h0, .int (zI i), .int (zI r), .int (zI x)] (S := Unit) (fun u => True) (fun u => some (.int (zI (sumR (xp i) (xz i) (xr i) (fun j => rowAt (eRow xe r) (xl r) j % xp i) x)))) (fun u => [(h0, .inr (5, [.ref ae, .ref al, .ref ap, .ref az, .ref ar, .int (zI np), .ref am, .int (zI 0)]))]) := by
  refine z_start (cc := cX6_sum) (maxL := 4) (ret := (some .int)) (own := RX6) (by decide) rfl rfl (Nat.le_of_ble_eq_true rfl) [(0, .ref h0), (1, .int (zI i)), (2, .int (zI r)), (3, .int (zI x))] rfl ?_
  intro pp ee s mm below meth cc A H ls hx hb hr hml hts hown hlocks hin hK hA hP hD hS hR0 hR hl
  have CF : CallFix pp mm cc cX6_sum 4 s ([.ref h0, .int (zI i), .int (zI r), .int (zI x)] : List Value).toArray wsX6_sum RX6 := ⟨hx, hb, hml, hown, hts⟩
  have hi6 : ∀ w ∈ wsX60, w ∈ wsX6_sum := by decide +kernel
  refine lv_aload_n hx hb dX6_sum_0 rfl (lv_at hl 0 rfl) ?_
  refine lv_aload_n hx hb dX6_sum_1 rfl (lv_at hl 0 rfl) ?_
  refine lv_iload_n hx hb dX6_sum_2 rfl (lv_at hl 1 rfl) ?_
  have hRc := z_subR (ws := [(h0, .inr (5, [.ref ae, .ref al, .ref ap, .ref az, .ref ar, .int (zI np), .ref am, .int (zI th)]))]) (rs := [(ae, .inl (cI, 256, .inl (zA xe))), (al, .inl (cI, 4, .inl (zA xl))), (ap, .inl (cI, 8, .inl (zA xp))), (az, .inl (cI, 8, .inl (zA xz))), (ar, .inl (cI, 8, .inl (zA xr)))]) (rc := [(h0, .inr (5, [.ref ae, .ref al, .ref ap, .ref az, .ref ar, .int (zI np), .ref am, .int (zI th)]))]) hP hR (isR := [0]) rfl
  refine z_ro (ws := [(h0, .inr (5, [.ref ae, .ref al, .ref ap, .ref az, .ref ar, .int (zI np), .ref am, .int (zI th)]))]) (va_runV (As := [.int (zI i)]) (rest := [.ref h0]) CF (c_X6_isPlan l D h0 ae al ap az ar am np th i (by omega) (by omega) H.size) (cwV 1 hts gX6_sum_X6_isPlan rfl rfl rfl (by decide +kernel) ⟨Nat.le_of_ble_eq_true rfl, Nat.le_of_ble_eq_true rfl⟩) (z_preV (va_recv hK hP (ci := 5) (q0 := 0) rfl rfl) z_nilP (z_nilD (A := A)) hRc z_noX (hK.sub (tys' := []) [] rfl)) rfl rfl hl.1 rfl (lv_room (Nat.le_of_ble_eq_true rfl)) dX6_sum_3 ⟨Nat.le_of_ble_eq_true rfl, Nat.le_of_ble_eq_true rfl⟩) hP hS hA (cells' := 0) (slots' := 0) rfl rfl (fun H locs hP hS => ?_)
  have hR := hR0.at hS
  refine z_ifB_eq (tgt := 30) hx hb dX6_sum_6 (by decide) (fun c_6 => absurd c_6 (by omega)) (fun c_6 => ?_)
  refine lv_iload_n hx hb dX6_sum_9 rfl (lv_at hl 2 rfl) ?_
  have hRc : va_P D vwCl [] H := z_nilP
  refine z_ro (ws := [(h0, .inr (5, [.ref ae, .ref al, .ref ap, .ref az, .ref ar, .int (zI np), .ref am, .int (zI th)]))]) (va_runS (As := [.int (zI r)]) (rest := [.ref h0]) CF (c_X6_isRow l D r (by omega) H.size) (va_cwS 1 hts gX6_sum_X6_isRow rfl rfl rfl (by decide +kernel) ⟨Nat.le_of_ble_eq_true rfl, Nat.le_of_ble_eq_true rfl⟩) (z_preS z_nilP (z_nilD (A := A)) hRc z_noX (hK.sub (tys' := []) [] rfl)) rfl rfl hl.1 rfl (lv_room (Nat.le_of_ble_eq_true rfl)) dX6_sum_10 ⟨Nat.le_of_ble_eq_true rfl, Nat.le_of_ble_eq_true rfl⟩) hP hS hA (cells' := 0) (slots' := 0) rfl rfl (fun H locs hP hS => ?_)
  have hR := hR0.at hS
  refine z_ifB_eq (tgt := 30) hx hb dX6_sum_13 (by decide) (fun c_13 => absurd c_13 (by omega)) (fun c_13 => ?_)
  refine lv_iload_n hx hb dX6_sum_16 rfl (lv_at hl 3 rfl) ?_
  refine z_if_lt (tgt := 30) hx hb dX6_sum_17 (by decide) (by omega) (fun c_17 => absurd c_17 (by omega)) (fun c_17 => ?_)
  refine lv_iload_n hx hb dX6_sum_20 rfl (lv_at hl 3 rfl) ?_
  refine lv_aload_n hx hb dX6_sum_21 rfl (lv_at hl 0 rfl) ?_
  refine va_get (D := D) (ci := 5) (C := RX6) (T := TX6) (N := 8) hx hb hts hi6 hown hK hP 0 rfl rfl 3 (by decide) (hts (.fieldLink RX6 19 "ButterflyYardModel" "sizes" "[I") (by decide +kernel)) (fun _ h9 => h9) rfl dX6_sum_22 ?_
  refine lv_iload_n hx hb dX6_sum_25 rfl (lv_at hl 1 rfl) ?_
  refine z_iald (cA := cI) (n := 8) (g := xz) hx hb hK hR 3 0 rfl rfl rfl (by omega) dX6_sum_26 ?_
  refine z_icmp_lt (tgt := 34) hx hb dX6_sum_27 (by decide) (by omega) (fun c_27 => ?_) (fun c_27 => absurd c_27 (by omega))
  refine lv_aload_n hx hb dX6_sum_34 rfl (lv_at hl 0 rfl) ?_
  refine va_get (D := D) (ci := 5) (C := RX6) (T := TX6) (N := 8) hx hb hts hi6 hown hK hP 0 rfl rfl 1 (by decide) (hts (.fieldLink RX6 13 "ButterflyYardModel" "lengths" "[I") (by decide +kernel)) (fun _ h9 => h9) rfl dX6_sum_35 ?_
  refine lv_iload_n hx hb dX6_sum_38 rfl (lv_at hl 2 rfl) ?_
  refine z_iald (cA := cI) (n := 4) (g := xl) hx hb hK hR 1 0 rfl rfl rfl (by omega) dX6_sum_39 ?_
  refine lv_aload_n hx hb dX6_sum_40 rfl (lv_at hl 0 rfl) ?_
  refine va_get (D := D) (ci := 5) (C := RX6) (T := TX6) (N := 8) hx hb hts hi6 hown hK hP 0 rfl rfl 3 (by decide) (hts (.fieldLink RX6 19 "ButterflyYardModel" "sizes" "[I") (by decide +kernel)) (fun _ h9 => h9) rfl dX6_sum_41 ?_
  refine lv_iload_n hx hb dX6_sum_44 rfl (lv_at hl 1 rfl) ?_
  refine z_iald (cA := cI) (n := 8) (g := xz) hx hb hK hR 3 0 rfl rfl rfl (by omega) dX6_sum_45 ?_
  refine z_icmp_le (tgt := 53) hx hb dX6_sum_46 (by decide) (by omega) (fun c_46 => ?_) (fun c_46 => absurd c_46 (by omega))
  refine z_iconst hx hb dX6_sum_53 ?_
  refine va_put (D := D) (ci := 5) (v := .int (zI 0)) (ty := .int) (C := RX6) (T := TX6) (N := 8) hx hb hts hi6 tyX6 tyX6_ok nmX6 hown hK hP hD hS 0 rfl rfl 7 (by decide) (hts (.fieldLink RX6 28 "ButterflyYardModel" "thrown" "I") (by decide +kernel)) (fun _ h9 => h9) rfl (by decide +kernel) rfl rfl (Nat.le_of_ble_eq_true rfl) dX6_sum_54 (fun H locs hP hD hS => ?_)
  have hP : va_P D vwCl [(h0, .inr (5, [.ref ae, .ref al, .ref ap, .ref az, .ref ar, .int (zI np), .ref am, .int (zI 0)]))] H := hP
  have hD : va_D A [(h0, .inr (5, [.ref ae, .ref al, .ref ap, .ref az, .ref ar, .int (zI np), .ref am, .int (zI 0)]))] := hD
  have hR := hR0.at hS
  refine lv_aload_n hx hb dX6_sum_57 rfl (lv_at hl 0 rfl) ?_
  refine va_get (D := D) (ci := 5) (C := RX6) (T := TX6) (N := 8) hx hb hts hi6 hown hK hP 0 rfl rfl 7 (by decide) (hts (.fieldLink RX6 28 "ButterflyYardModel" "thrown" "I") (by decide +kernel)) (fun _ h9 => h9) rfl dX6_sum_58 ?_
  refine z_if_ne (tgt := 80) hx hb dX6_sum_61 (by decide) (by omega) (fun c_61 => absurd c_61 (by omega)) (fun c_61 => ?_)
  refine lv_aload_n hx hb dX6_sum_64 rfl (lv_at hl 0 rfl) ?_
  refine lv_iload_n hx hb dX6_sum_65 rfl (lv_at hl 1 rfl) ?_
  refine lv_iload_n hx hb dX6_sum_66 rfl (lv_at hl 2 rfl) ?_
  refine lv_iload_n hx hb dX6_sum_67 rfl (lv_at hl 3 rfl) ?_
  refine lv_aload_n hx hb dX6_sum_68 rfl (lv_at hl 0 rfl) ?_
  refine va_get (D := D) (ci := 5) (C := RX6) (T := TX6) (N := 8) hx hb hts hi6 hown hK hP 0 rfl rfl 4 (by decide) (hts (.fieldLink RX6 22 "ButterflyYardModel" "roots" "[I") (by decide +kernel)) (fun _ h9 => h9) rfl dX6_sum_69 ?_
  refine lv_iload_n hx hb dX6_sum_72 rfl (lv_at hl 1 rfl) ?_
  refine z_iald (cA := cI) (n := 8) (g := xr) hx hb hK hR 4 0 rfl rfl rfl (by omega) dX6_sum_73 ?_
  have hRc := z_subR (ws := [(h0, .inr (5, [.ref ae, .ref al, .ref ap, .ref az, .ref ar, .int (zI np), .ref am, .int (zI 0)]))]) (rs := [(ae, .inl (cI, 256, .inl (zA xe))), (al, .inl (cI, 4, .inl (zA xl))), (ap, .inl (cI, 8, .inl (zA xp))), (az, .inl (cI, 8, .inl (zA xz))), (ar, .inl (cI, 8, .inl (zA xr)))]) (rc := [(h0, .inr (5, [.ref ae, .ref al, .ref ap, .ref az, .ref ar, .int (zI np), .ref am, .int (zI 0)])), (ae, .inl (cI, 256, .inl (zA xe))), (al, .inl (cI, 4, .inl (zA xl))), (ap, .inl (cI, 8, .inl (zA xp))), (az, .inl (cI, 8, .inl (zA xz)))]) hP hR (isR := [0, 1, 2, 3, 4]) rfl
  refine z_ro (ws := [(h0, .inr (5, [.ref ae, .ref al, .ref ap, .ref az, .ref ar, .int (zI np), .ref am, .int (zI 0)]))]) (va_runV (As := [.int (zI i), .int (zI r), .int (zI x), .int (zI (xr i))]) (rest := []) CF (c_X6_sumFor l D cI h0 ae al ap az ar am np 0 xe xl xp xz i r x (xr i) (by omega) (by omega) (by omega) (by omega) (by omega) (by omega) (by exact hxe) (by omega) (by omega) H.size) (cwV 4 hts gX6_sum_X6_sumFor rfl rfl rfl (by decide +kernel) ⟨Nat.le_of_ble_eq_true rfl, Nat.le_of_ble_eq_true rfl⟩) (z_preV (va_recv hK hP (ci := 5) (q0 := 0) rfl rfl) z_nilP (z_nilD (A := A)) hRc z_noX (hK.sub (tys' := [(cI, .int)]) [0] rfl)) rfl rfl hl.1 rfl (lv_room (Nat.le_of_ble_eq_true rfl)) dX6_sum_74 ⟨Nat.le_of_ble_eq_true rfl, Nat.le_of_ble_eq_true rfl⟩) hP hS hA (cells' := 0) (slots' := 0) rfl rfl (fun H locs hP hS => ?_)
  have hR := hR0.at hS
  refine lv_goto (tgt := 81) hx hb dX6_sum_77 (by decide) ?_
  exact z_iret hx hb hr hlocks rfl () (rfl) (trivial) hP hD hS dX6_sum_81

