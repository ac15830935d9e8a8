set_option maxHeartbeats 4000000 in
set_option maxRecDepth 100000 in
theorem c_X3_count (l : Launch) (D : va_G) (h0 : Nat) (he : Nat) (cn : Int) : zF l yX3_count wsX3_count ({ frames := 0, cells := 0, slots := 0, locals := 0 } : Room) D [] [(h0, .inr (2, [.ref he, .int (zI cn)]))] [.ref h0] (some (.int (zI cn))) := by
  refine z_start (cc := cX3_count) (maxL := 1) (ret := (some .int)) (own := RX3) (by decide) rfl rfl (Nat.le_of_ble_eq_true rfl) [(0, .ref h0)] rfl ?_
  intro pp ee s mm below meth cc A H ls hx hb hr hml hts hown hlocks hin hK hA hP hD hS hR0 hR hl
  have CF : CallFix pp mm cc cX3_count 1 s ([.ref h0] : List Value).toArray wsX3_count RX3 := ⟨hx, hb, hml, hown, hts⟩
  have hi3 : ∀ w ∈ wsX30, w ∈ wsX3_count := by decide +kernel
  refine lv_aload_n hx hb dX3_count_0 rfl (lv_at hl 0 rfl) ?_
  refine va_get (D := D) (ci := 2) (C := RX3) (T := TX3) (N := 2) hx hb hts hi3 hown hK hR 0 rfl rfl 1 (by decide) (hts (.fieldLink RX3 15 "ButterflyYard$Row" "count" "I") (by decide +kernel)) (fun _ h9 => h9) rfl dX3_count_1 ?_
  exact z_iret hx hb hr hlocks rfl () (rfl) (trivial) z_nilP z_nilD hS dX3_count_4

set_option maxHeartbeats 4000000 in
set_option maxRecDepth 100000 in
theorem c_X3_entry (l : Launch) (D : va_G) (cI : ClassId) (h0 : Nat) (he : Nat) (cn : Int) (a : Int → Int) (x : Int) (hx0 : -2147483648 ≤ x ∧ x ≤ 2147483647) (hcn : 0 ≤ cn ∧ cn ≤ 64) : zF l yX3_entry wsX3_entry ({ frames := 0, cells := 0, slots := 0, locals := 0 } : Room) D [(cI, .int)] [(h0, .inr (2, [.ref he, .int (zI cn)])), (he, .inl (cI, 64, .inl (zA a)))] [.ref h0, .int (zI x)] (some (.int (zI (rowAt a cn x)))) := by
  refine z_start (cc := cX3_entry) (maxL := 2) (ret := (some .int)) (own := RX3) (by decide) rfl rfl (Nat.le_of_ble_eq_true rfl) [(0, .ref h0), (1, .int (zI x))] rfl ?_
  intro pp ee s mm below meth cc A H ls hx hb hr hml hts hown hlocks hin hK hA hP hD hS hR0 hR hl
  have CF : CallFix pp mm cc cX3_entry 2 s ([.ref h0, .int (zI x)] : List Value).toArray wsX3_entry RX3 := ⟨hx, hb, hml, hown, hts⟩
  have hi3 : ∀ w ∈ wsX30, w ∈ wsX3_entry := by decide +kernel
  refine lv_iload_n hx hb dX3_entry_0 rfl (lv_at hl 1 rfl) ?_
  refine z_if_lt (tgt := 12) hx hb dX3_entry_1 (by decide) (by omega) (fun c_1 => ?_) (fun c_1 => ?_)
  · refine z_iconst hx hb dX3_entry_12 ?_
    refine lv_goto (tgt := 22) hx hb dX3_entry_13 (by decide) ?_
    have hres : rowAt a cn x = 0 := by rw [rowAt_out (by omega)]
    exact z_iret hx hb hr hlocks rfl () (congrArg (fun z => some (Value.int (zI z))) hres) (trivial) z_nilP z_nilD hS dX3_entry_22
  · refine lv_iload_n hx hb dX3_entry_4 rfl (lv_at hl 1 rfl) ?_
    refine lv_aload_n hx hb dX3_entry_5 rfl (lv_at hl 0 rfl) ?_
    refine va_get (D := D) (ci := 2) (C := RX3) (T := TX3) (N := 2) hx hb hts hi3 hown hK hR 0 rfl rfl 1 (by decide) (hts (.fieldLink RX3 15 "ButterflyYard$Row" "count" "I") (by decide +kernel)) (fun _ h9 => h9) rfl dX3_entry_6 ?_
    refine z_icmp_lt (tgt := 16) hx hb dX3_entry_9 (by decide) (by omega) (fun c_9 => ?_) (fun c_9 => ?_)
    · refine lv_aload_n hx hb dX3_entry_16 rfl (lv_at hl 0 rfl) ?_
      refine va_get (D := D) (ci := 2) (C := RX3) (T := TX3) (N := 2) hx hb hts hi3 hown hK hR 0 rfl rfl 0 (by decide) (hts (.fieldLink RX3 9 "ButterflyYard$Row" "entries" "[I") (by decide +kernel)) (fun _ h9 => h9) rfl dX3_entry_17 ?_
      refine lv_iload_n hx hb dX3_entry_20 rfl (lv_at hl 1 rfl) ?_
      refine z_iald (cA := cI) (n := 64) (g := a) hx hb hK hR 1 0 rfl rfl rfl (by omega) dX3_entry_21 ?_
      have hres : rowAt a cn x = a x := by rw [rowAt_in (by omega)]
      exact z_iret hx hb hr hlocks rfl () (congrArg (fun z => some (Value.int (zI z))) hres) (trivial) z_nilP z_nilD hS dX3_entry_22
    · refine z_iconst hx hb dX3_entry_12 ?_
      refine lv_goto (tgt := 22) hx hb dX3_entry_13 (by decide) ?_
      have hres : rowAt a cn x = 0 := by rw [rowAt_out (by omega)]
      exact z_iret hx hb hr hlocks rfl () (congrArg (fun z => some (Value.int (zI z))) hres) (trivial) z_nilP z_nilD hS dX3_entry_22

set_option maxHeartbeats 4000000 in
set_option maxRecDepth 100000 in
theorem c_X3_add_ok (l : Launch) (D : va_G) (cI : ClassId) (h0 : Nat) (he : Nat) (cn : Int) (a : Int → Int) (x : Int) (hcn : 0 ≤ cn ∧ cn < 64) : zC l yX3_add wsX3_add ({ frames := 0, cells := 0, slots := 0, locals := 0 } : Room) D [(cI, .int)] [(h0, .inr (2, [.ref he, .int (zI cn)])), (he, .inl (cI, 64, .inl (zA a)))] [] [.ref h0, .int (zI x)] (S := Unit) (fun u => True) (fun u => some (.int (zI 1))) (fun u => [(h0, .inr (2, [.ref he, .int (zI (cn + 1))])), (he, .inl (cI, 64, .inl (zA (zU a cn x))))]) := by
  refine z_start (cc := cX3_add) (maxL := 2) (ret := (some .boolean)) (own := RX3) (by decide) rfl rfl (Nat.le_of_ble_eq_true rfl) [(0, .ref h0), (1, .int (zI x))] rfl ?_
  intro pp ee s mm below meth cc A H ls hx hb hr hml hts hown hlocks hin hK hA hP hD hS hR0 hR hl
  have CF : CallFix pp mm cc cX3_add 2 s ([.ref h0, .int (zI x)] : List Value).toArray wsX3_add RX3 := ⟨hx, hb, hml, hown, hts⟩
  have hi3 : ∀ w ∈ wsX30, w ∈ wsX3_add := by decide +kernel
  refine lv_aload_n hx hb dX3_add_0 rfl (lv_at hl 0 rfl) ?_
  refine va_get (D := D) (ci := 2) (C := RX3) (T := TX3) (N := 2) hx hb hts hi3 hown hK hP 0 rfl rfl 1 (by decide) (hts (.fieldLink RX3 15 "ButterflyYard$Row" "count" "I") (by decide +kernel)) (fun _ h9 => h9) rfl dX3_add_1 ?_
  refine z_bipush hx hb dX3_add_4 (by decide) ?_
  refine z_icmp_lt (tgt := 11) hx hb dX3_add_6 (by decide) (by omega) (fun c_6 => ?_) (fun c_6 => absurd c_6 (by omega))
  refine lv_aload_n hx hb dX3_add_11 rfl (lv_at hl 0 rfl) ?_
  refine va_get (D := D) (ci := 2) (C := RX3) (T := TX3) (N := 2) hx hb hts hi3 hown hK hP 0 rfl rfl 0 (by decide) (hts (.fieldLink RX3 9 "ButterflyYard$Row" "entries" "[I") (by decide +kernel)) (fun _ h9 => h9) rfl dX3_add_12 ?_
  refine lv_aload_n hx hb dX3_add_15 rfl (lv_at hl 0 rfl) ?_
  refine va_get (D := D) (ci := 2) (C := RX3) (T := TX3) (N := 2) hx hb hts hi3 hown hK hP 0 rfl rfl 1 (by decide) (hts (.fieldLink RX3 15 "ButterflyYard$Row" "count" "I") (by decide +kernel)) (fun _ h9 => h9) rfl dX3_add_16 ?_
  refine lv_iload_n hx hb dX3_add_19 rfl (lv_at hl 1 rfl) ?_
  refine z_iast (cA := cI) (n := 64) (g := a) (i := cn) (v := x) hx hb hK hP hD hS 1 0 rfl rfl rfl (by omega) dX3_add_20 (fun H locs hP hD hS => ?_)
  have hP : va_P D vwCl [(h0, .inr (2, [.ref he, .int (zI cn)])), (he, .inl (cI, 64, .inl (zA (zU a cn x))))] H := hP
  have hD : va_D A [(h0, .inr (2, [.ref he, .int (zI cn)])), (he, .inl (cI, 64, .inl (zA (zU a cn x))))] := hD
  refine lv_aload_n hx hb dX3_add_21 rfl (lv_at hl 0 rfl) ?_
  refine lv_dup hx hb dX3_add_22 rfl ?_
  refine va_get (D := D) (ci := 2) (C := RX3) (T := TX3) (N := 2) hx hb hts hi3 hown hK hP 0 rfl rfl 1 (by decide) (hts (.fieldLink RX3 15 "ButterflyYard$Row" "count" "I") (by decide +kernel)) (fun _ h9 => h9) rfl dX3_add_23 ?_
  refine z_iconst hx hb dX3_add_26 ?_
  refine z_iadd hx hb dX3_add_27 ?_
  refine va_put (D := D) (ci := 2) (v := .int (zI (cn + 1))) (ty := .int) (C := RX3) (T := TX3) (N := 2) hx hb hts hi3 tyX3 tyX3_ok nmX3 hown hK hP hD hS 0 rfl rfl 1 (by decide) (hts (.fieldLink RX3 15 "ButterflyYard$Row" "count" "I") (by decide +kernel)) (fun _ h9 => h9) rfl (by decide +kernel) rfl rfl (Nat.le_of_ble_eq_true rfl) dX3_add_28 (fun H locs hP hD hS => ?_)
  have hP : va_P D vwCl [(h0, .inr (2, [.ref he, .int (zI (cn + 1))])), (he, .inl (cI, 64, .inl (zA (zU a cn x))))] H := hP
  have hD : va_D A [(h0, .inr (2, [.ref he, .int (zI (cn + 1))])), (he, .inl (cI, 64, .inl (zA (zU a cn x))))] := hD
  refine z_iconst hx hb dX3_add_31 ?_
  exact z_iret hx hb hr hlocks (rfl) () (rfl) (trivial) hP hD hS dX3_add_32

set_option maxHeartbeats 4000000 in
set_option maxRecDepth 100000 in
theorem c_X3_add_full (l : Launch) (D : va_G) (h0 : Nat) (he : Nat) (cn : Int) (x : Int) (hcn : cn = 64) : zF l yX3_add wsX3_add ({ frames := 0, cells := 0, slots := 0, locals := 0 } : Room) D [] [(h0, .inr (2, [.ref he, .int (zI cn)]))] [.ref h0, .int (zI x)] (some (.int (zI 0))) := by
  refine z_start (cc := cX3_add) (maxL := 2) (ret := (some .boolean)) (own := RX3) (by decide) rfl rfl (Nat.le_of_ble_eq_true rfl) [(0, .ref h0), (1, .int (zI x))] rfl ?_
  intro pp ee s mm below meth cc A H ls hx hb hr hml hts hown hlocks hin hK hA hP hD hS hR0 hR hl
  have CF : CallFix pp mm cc cX3_add 2 s ([.ref h0, .int (zI x)] : List Value).toArray wsX3_add RX3 := ⟨hx, hb, hml, hown, hts⟩
  have hi3 : ∀ w ∈ wsX30, w ∈ wsX3_add := by decide +kernel
  refine lv_aload_n hx hb dX3_add_0 rfl (lv_at hl 0 rfl) ?_
  refine va_get (D := D) (ci := 2) (C := RX3) (T := TX3) (N := 2) hx hb hts hi3 hown hK hR 0 rfl rfl 1 (by decide) (hts (.fieldLink RX3 15 "ButterflyYard$Row" "count" "I") (by decide +kernel)) (fun _ h9 => h9) rfl dX3_add_1 ?_
  refine z_bipush hx hb dX3_add_4 (by decide) ?_
  refine z_icmp_lt (tgt := 11) hx hb dX3_add_6 (by decide) (by omega) (fun c_6 => absurd c_6 (by omega)) (fun c_6 => ?_)
  refine z_iconst hx hb dX3_add_9 ?_
  exact z_iret hx hb hr hlocks (rfl) () (rfl) (trivial) z_nilP z_nilD hS dX3_add_10

set_option maxHeartbeats 4000000 in
set_option maxRecDepth 100000 in
theorem c_X3_empty (l : Launch) (D : va_G) (h0 : Nat) (he : Nat) (cn : Int) : zC l yX3_empty wsX3_empty ({ frames := 0, cells := 0, slots := 0, locals := 0 } : Room) D [] [(h0, .inr (2, [.ref he, .int (zI cn)]))] [] [.ref h0] (S := Unit) (fun u => True) (fun u => none) (fun u => [(h0, .inr (2, [.ref he, .int (zI 0)]))]) := by
  refine z_start (cc := cX3_empty) (maxL := 1) (ret := none) (own := RX3) (by decide) rfl rfl (Nat.le_of_ble_eq_true rfl) [(0, .ref h0)] rfl ?_
  intro pp ee s mm below meth cc A H ls hx hb hr hml hts hown hlocks hin hK hA hP hD hS hR0 hR hl
  have CF : CallFix pp mm cc cX3_empty 1 s ([.ref h0] : List Value).toArray wsX3_empty RX3 := ⟨hx, hb, hml, hown, hts⟩
  have hi3 : ∀ w ∈ wsX30, w ∈ wsX3_empty := by decide +kernel
  refine lv_aload_n hx hb dX3_empty_0 rfl (lv_at hl 0 rfl) ?_
  refine z_iconst hx hb dX3_empty_1 ?_
  refine va_put (D := D) (ci := 2) (v := .int (zI 0)) (ty := .int) (C := RX3) (T := TX3) (N := 2) hx hb hts hi3 tyX3 tyX3_ok nmX3 hown hK hP hD hS 0 rfl rfl 1 (by decide) (hts (.fieldLink RX3 15 "ButterflyYard$Row" "count" "I") (by decide +kernel)) (fun _ h9 => h9) rfl (by decide +kernel) rfl rfl (Nat.le_of_ble_eq_true rfl) dX3_empty_2 (fun H locs hP hD hS => ?_)
  have hP : va_P D vwCl [(h0, .inr (2, [.ref he, .int (zI 0)]))] H := hP
  have hD : va_D A [(h0, .inr (2, [.ref he, .int (zI 0)]))] := hD
  exact z_vret hx hb hr hlocks () rfl (trivial) hP hD hS dX3_empty_5

set_option maxHeartbeats 4000000 in
set_option maxRecDepth 100000 in
theorem c_X3_take (l : Launch) (D : va_G) (cI : ClassId) (h0 : Nat) (he : Nat) (cn : Int) (a : Int → Int) (hv : Nat) (b : Int → Int) (sz : Int) (hsz : 0 ≤ sz ∧ sz ≤ 64) : zC l yX3_take wsX3_take ({ frames := 1, cells := 0, slots := 0, locals := 14 } : Room) D [(cI, .int)] [(h0, .inr (2, [.ref he, .int (zI cn)])), (he, .inl (cI, 64, .inl (zA a)))] [(hv, .inl (cI, 64, .inl (zA b)))] [.ref h0, .ref hv, .int (zI sz)] (S := Int → Int) (fun a2 => ∀ k, 0 ≤ k → k < sz → a2 k = b k) (fun a2 => none) (fun a2 => [(h0, .inr (2, [.ref he, .int (zI sz)])), (he, .inl (cI, 64, .inl (zA a2)))]) := by
  refine z_start (cc := cX3_take) (maxL := 4) (ret := none) (own := RX3) (by decide) rfl rfl (Nat.le_of_ble_eq_true rfl) [(0, .ref h0), (1, .ref hv), (2, .int (zI sz))] rfl ?_
  intro pp ee s mm below meth cc A H ls hx hb hr hml hts hown hlocks hin hK hA hP hD hS hR0 hR hl
  have CF : CallFix pp mm cc cX3_take 4 s ([.ref h0, .ref hv, .int (zI sz)] : List Value).toArray wsX3_take RX3 := ⟨hx, hb, hml, hown, hts⟩
  have hi3 : ∀ w ∈ wsX30, w ∈ wsX3_take := by decide +kernel
  refine lv_aload_n hx hb dX3_take_0 rfl (lv_at hl 0 rfl) ?_
  refine lv_iload_n hx hb dX3_take_1 rfl (lv_at hl 2 rfl) ?_
  refine z_bipush hx hb dX3_take_2 (by decide) ?_
  refine z_mmin hx hb (hml.trans hl.1.symm) hown (hts (.methodLink RX3 19 Lib.Math.min.name) (by decide +kernel)) (hts (.static Lib.Math.min.name) (by decide +kernel)) (hts (.initialized "java/lang/Math") (by decide +kernel)) (hts (.code Lib.Math.min.name Lib.Math.min.code 2 (some .int)) (by decide +kernel)) (Nat.le_of_ble_eq_true rfl) (Nat.le_of_ble_eq_true rfl) (Nat.le_of_ble_eq_true rfl) (Nat.le_of_ble_eq_true rfl) (by omega) dX3_take_4 ?_
  refine z_eqI (b := sz) (by omega) ?_
  refine va_put (D := D) (ci := 2) (v := .int (zI sz)) (ty := .int) (C := RX3) (T := TX3) (N := 2) hx hb hts hi3 tyX3 tyX3_ok nmX3 hown hK hP hD hS 0 rfl rfl 1 (by decide) (hts (.fieldLink RX3 15 "ButterflyYard$Row" "count" "I") (by decide +kernel)) (fun _ h9 => h9) rfl (by decide +kernel) rfl rfl (Nat.le_of_ble_eq_true rfl) dX3_take_7 (fun H locs hP hD hS => ?_)
  have hP : va_P D vwCl [(h0, .inr (2, [.ref he, .int (zI sz)])), (he, .inl (cI, 64, .inl (zA a)))] H := hP
  have hD : va_D A [(h0, .inr (2, [.ref he, .int (zI sz)])), (he, .inl (cI, 64, .inl (zA a)))] := hD
  have hR := hR0.at hS
  refine z_iconst hx hb dX3_take_10 ?_
  refine lv_istore_n (lv' := [(3, .int (zI 0)), (0, .ref h0), (1, .ref hv), (2, .int (zI sz))]) hx hb dX3_take_11 rfl hl (by decide) rfl (fun ls hl => ?_)
  have hl := lv_sub hl [1, 2, 3, 0] rfl
  have hl : lv_has ls 4 [(0, .ref h0), (1, .ref hv), (2, .int (zI sz)), (3, .int (zI 0))] := hl
  refine z_loop (σ := Int × (Int → Int)) (fun (i, a2) => (sz - i).toNat) (fun (i, a2) H locs ls => (0 ≤ i ∧ i ≤ sz) ∧ (∀ k, 0 ≤ k → k < i → a2 k = b k) ∧ va_P D vwCl [(h0, .inr (2, [.ref he, .int (zI sz)])), (he, .inl (cI, 64, .inl (zA a2)))] H ∧ va_D A [(h0, .inr (2, [.ref he, .int (zI sz)])), (he, .inl (cI, 64, .inl (zA a2)))] ∧ va_S A s.heap H locs ∧ lv_has ls 4 [(0, .ref h0), (1, .ref hv), (2, .int (zI sz)), (3, .int (zI i))]) (0, a) ⟨(by omega), (fun k h1 h2 => absurd h2 (by omega)), hP, hD, hS, hl⟩ ?_
  intro ⟨i, a2⟩ H locs ls hI ih_12
  obtain ⟨hi, hf, hP, hD, hS, hl⟩ := hI
  have hR := hR0.at hS
  refine lv_iload_n hx hb dX3_take_12 rfl (lv_at hl 3 rfl) ?_
  refine lv_aload_n hx hb dX3_take_13 rfl (lv_at hl 0 rfl) ?_
  refine va_get (D := D) (ci := 2) (C := RX3) (T := TX3) (N := 2) hx hb hts hi3 hown hK hP 0 rfl rfl 1 (by decide) (hts (.fieldLink RX3 15 "ButterflyYard$Row" "count" "I") (by decide +kernel)) (fun _ h9 => h9) rfl dX3_take_14 ?_
  refine z_icmp_ge (tgt := 35) hx hb dX3_take_17 (by decide) (by omega) (fun c_17 => ?_) (fun c_17 => ?_)
  · exact z_vret hx hb hr hlocks a2 rfl (fun k h1 h2 => hf k h1 (by omega)) hP hD hS dX3_take_35
  · refine lv_aload_n hx hb dX3_take_20 rfl (lv_at hl 0 rfl) ?_
    refine va_get (D := D) (ci := 2) (C := RX3) (T := TX3) (N := 2) hx hb hts hi3 hown hK hP 0 rfl rfl 0 (by decide) (hts (.fieldLink RX3 9 "ButterflyYard$Row" "entries" "[I") (by decide +kernel)) (fun _ h9 => h9) rfl dX3_take_21 ?_
    refine lv_iload_n hx hb dX3_take_24 rfl (lv_at hl 3 rfl) ?_
    refine lv_aload_n hx hb dX3_take_25 rfl (lv_at hl 1 rfl) ?_
    refine lv_iload_n hx hb dX3_take_26 rfl (lv_at hl 3 rfl) ?_
    refine z_iald (cA := cI) (n := 64) (g := b) hx hb hK hR 0 0 rfl rfl rfl (by omega) dX3_take_27 ?_
    refine z_iast (cA := cI) (n := 64) (g := a2) (i := i) (v := b i) hx hb hK hP hD hS 1 0 rfl rfl rfl (by omega) dX3_take_28 (fun H locs hP hD hS => ?_)
    have hP : va_P D vwCl [(h0, .inr (2, [.ref he, .int (zI sz)])), (he, .inl (cI, 64, .inl (zA (zU a2 i (b i)))))] H := hP
    have hD : va_D A [(h0, .inr (2, [.ref he, .int (zI sz)])), (he, .inl (cI, 64, .inl (zA (zU a2 i (b i)))))] := hD
    have hR := hR0.at hS
    refine lv_iinc (v := zI (i + 1)) (lv' := [(3, .int (zI (i + 1))), (0, .ref h0), (1, .ref hv), (2, .int (zI sz))]) hx hb dX3_take_29 hl (k := 3) rfl (zI_add _ _) (by decide) rfl (fun ls hl => ?_)
    have hl := lv_sub hl [1, 2, 3, 0] rfl
    have hl : lv_has ls 4 [(0, .ref h0), (1, .ref hv), (2, .int (zI sz)), (3, .int (zI (i + 1)))] := hl
    refine lv_goto (tgt := 12) hx hb dX3_take_32 (by decide) ?_
    exact ih_12 (i + 1, zU a2 i (b i)) _ _ _ ⟨(by omega), (by exact zU_fill hf rfl), hP, hD, hS, hl⟩ (by show (sz - (i + 1)).toNat < (sz - i).toNat; omega)

set_option maxHeartbeats 4000000 in
set_option maxRecDepth 100000 in
theorem c_X3_take_self (l : Launch) (D : va_G) (cI : ClassId) (h0 : Nat) (he : Nat) (cn : Int) (a : Int → Int) (sz : Int) (hsz : 0 ≤ sz ∧ sz ≤ 64) : zC l yX3_take wsX3_take ({ frames := 1, cells := 0, slots := 0, locals := 14 } : Room) D [(cI, .int)] [(h0, .inr (2, [.ref he, .int (zI cn)])), (he, .inl (cI, 64, .inl (zA a)))] [] [.ref h0, .ref he, .int (zI sz)] (S := Int → Int) (fun a2 => ∀ k, 0 ≤ k → k < sz → a2 k = a k) (fun a2 => none) (fun a2 => [(h0, .inr (2, [.ref he, .int (zI sz)])), (he, .inl (cI, 64, .inl (zA a2)))]) := by
  refine z_start (cc := cX3_take) (maxL := 4) (ret := none) (own := RX3) (by decide) rfl rfl (Nat.le_of_ble_eq_true rfl) [(0, .ref h0), (1, .ref he), (2, .int (zI sz))] rfl ?_
  intro pp ee s mm below meth cc A H ls hx hb hr hml hts hown hlocks hin hK hA hP hD hS hR0 hR hl
  have CF : CallFix pp mm cc cX3_take 4 s ([.ref h0, .ref he, .int (zI sz)] : List Value).toArray wsX3_take RX3 := ⟨hx, hb, hml, hown, hts⟩
  have hi3 : ∀ w ∈ wsX30, w ∈ wsX3_take := by decide +kernel
  refine lv_aload_n hx hb dX3_take_0 rfl (lv_at hl 0 rfl) ?_
  refine lv_iload_n hx hb dX3_take_1 rfl (lv_at hl 2 rfl) ?_
  refine z_bipush hx hb dX3_take_2 (by decide) ?_
  refine z_mmin hx hb (hml.trans hl.1.symm) hown (hts (.methodLink RX3 19 Lib.Math.min.name) (by decide +kernel)) (hts (.static Lib.Math.min.name) (by decide +kernel)) (hts (.initialized "java/lang/Math") (by decide +kernel)) (hts (.code Lib.Math.min.name Lib.Math.min.code 2 (some .int)) (by decide +kernel)) (Nat.le_of_ble_eq_true rfl) (Nat.le_of_ble_eq_true rfl) (Nat.le_of_ble_eq_true rfl) (Nat.le_of_ble_eq_true rfl) (by omega) dX3_take_4 ?_
  refine z_eqI (b := sz) (by omega) ?_
  refine va_put (D := D) (ci := 2) (v := .int (zI sz)) (ty := .int) (C := RX3) (T := TX3) (N := 2) hx hb hts hi3 tyX3 tyX3_ok nmX3 hown hK hP hD hS 0 rfl rfl 1 (by decide) (hts (.fieldLink RX3 15 "ButterflyYard$Row" "count" "I") (by decide +kernel)) (fun _ h9 => h9) rfl (by decide +kernel) rfl rfl (Nat.le_of_ble_eq_true rfl) dX3_take_7 (fun H locs hP hD hS => ?_)
  have hP : va_P D vwCl [(h0, .inr (2, [.ref he, .int (zI sz)])), (he, .inl (cI, 64, .inl (zA a)))] H := hP
  have hD : va_D A [(h0, .inr (2, [.ref he, .int (zI sz)])), (he, .inl (cI, 64, .inl (zA a)))] := hD
  refine z_iconst hx hb dX3_take_10 ?_
  refine lv_istore_n (lv' := [(3, .int (zI 0)), (0, .ref h0), (1, .ref he), (2, .int (zI sz))]) hx hb dX3_take_11 rfl hl (by decide) rfl (fun ls hl => ?_)
  have hl := lv_sub hl [1, 2, 3, 0] rfl
  have hl : lv_has ls 4 [(0, .ref h0), (1, .ref he), (2, .int (zI sz)), (3, .int (zI 0))] := hl
  refine z_loop (σ := Int × (Int → Int)) (fun (i, a2) => (sz - i).toNat) (fun (i, a2) H locs ls => (0 ≤ i ∧ i ≤ sz) ∧ (∀ k, 0 ≤ k → k < 64 → a2 k = a k) ∧ va_P D vwCl [(h0, .inr (2, [.ref he, .int (zI sz)])), (he, .inl (cI, 64, .inl (zA a2)))] H ∧ va_D A [(h0, .inr (2, [.ref he, .int (zI sz)])), (he, .inl (cI, 64, .inl (zA a2)))] ∧ va_S A s.heap H locs ∧ lv_has ls 4 [(0, .ref h0), (1, .ref he), (2, .int (zI sz)), (3, .int (zI i))]) (0, a) ⟨(by omega), (fun k h1 h2 => rfl), hP, hD, hS, hl⟩ ?_
  intro ⟨i, a2⟩ H locs ls hI ih_12
  obtain ⟨hi, hf, hP, hD, hS, hl⟩ := hI
  refine lv_iload_n hx hb dX3_take_12 rfl (lv_at hl 3 rfl) ?_
  refine lv_aload_n hx hb dX3_take_13 rfl (lv_at hl 0 rfl) ?_
  refine va_get (D := D) (ci := 2) (C := RX3) (T := TX3) (N := 2) hx hb hts hi3 hown hK hP 0 rfl rfl 1 (by decide) (hts (.fieldLink RX3 15 "ButterflyYard$Row" "count" "I") (by decide +kernel)) (fun _ h9 => h9) rfl dX3_take_14 ?_
  refine z_icmp_ge (tgt := 35) hx hb dX3_take_17 (by decide) (by omega) (fun c_17 => ?_) (fun c_17 => ?_)
  · exact z_vret hx hb hr hlocks a2 rfl (fun k h1 h2 => hf k h1 (by omega)) hP hD hS dX3_take_35
  · refine lv_aload_n hx hb dX3_take_20 rfl (lv_at hl 0 rfl) ?_
    refine va_get (D := D) (ci := 2) (C := RX3) (T := TX3) (N := 2) hx hb hts hi3 hown hK hP 0 rfl rfl 0 (by decide) (hts (.fieldLink RX3 9 "ButterflyYard$Row" "entries" "[I") (by decide +kernel)) (fun _ h9 => h9) rfl dX3_take_21 ?_
    refine lv_iload_n hx hb dX3_take_24 rfl (lv_at hl 3 rfl) ?_
    refine lv_aload_n hx hb dX3_take_25 rfl (lv_at hl 1 rfl) ?_
    refine lv_iload_n hx hb dX3_take_26 rfl (lv_at hl 3 rfl) ?_
    refine z_iald (cA := cI) (n := 64) (g := a2) hx hb hK hP 1 0 rfl rfl rfl (by omega) dX3_take_27 ?_
    refine z_iast (cA := cI) (n := 64) (g := a2) (i := i) (v := a2 i) hx hb hK hP hD hS 1 0 rfl rfl rfl (by omega) dX3_take_28 (fun H locs hP hD hS => ?_)
    have hP : va_P D vwCl [(h0, .inr (2, [.ref he, .int (zI sz)])), (he, .inl (cI, 64, .inl (zA (zU a2 i (a2 i)))))] H := hP
    have hD : va_D A [(h0, .inr (2, [.ref he, .int (zI sz)])), (he, .inl (cI, 64, .inl (zA (zU a2 i (a2 i)))))] := hD
    refine lv_iinc (v := zI (i + 1)) (lv' := [(3, .int (zI (i + 1))), (0, .ref h0), (1, .ref he), (2, .int (zI sz))]) hx hb dX3_take_29 hl (k := 3) rfl (zI_add _ _) (by decide) rfl (fun ls hl => ?_)
    have hl := lv_sub hl [1, 2, 3, 0] rfl
    have hl : lv_has ls 4 [(0, .ref h0), (1, .ref he), (2, .int (zI sz)), (3, .int (zI (i + 1)))] := hl
    refine lv_goto (tgt := 12) hx hb dX3_take_32 (by decide) ?_
    exact ih_12 (i + 1, zU a2 i (a2 i)) _ _ _ ⟨(by omega), (by exact fun k h1 h2 => by by_cases e : k = i; (subst e; rw [zU_s]; exact hf _ h1 h2); (rw [zU_n _ _ e]; exact hf _ h1 h2)), hP, hD, hS, hl⟩ (by show (sz - (i + 1)).toNat < (sz - i).toNat; omega)

set_option maxHeartbeats 4000000 in
set_option maxRecDepth 100000 in
theorem c_X3_takeRow (l : Launch) (D : va_G) (cI : ClassId) (h0 : Nat) (he : Nat) (cn : Int) (a : Int → Int) (h1 : Nat) (hf : Nat) (cm : Int) (b : Int → Int) (hcm : 0 ≤ cm ∧ cm ≤ 64) : zC l yX3_takeRow wsX3_takeRow ({ frames := 2, cells := 0, slots := 0, locals := 37 } : Room) D [(cI, .int)] [(h0, .inr (2, [.ref he, .int (zI cn)])), (he, .inl (cI, 64, .inl (zA a)))] [(h1, .inr (2, [.ref hf, .int (zI cm)])), (hf, .inl (cI, 64, .inl (zA b)))] [.ref h0, .ref h1] (S := Int → Int) (fun a2 => ∀ k, 0 ≤ k → k < cm → a2 k = b k) (fun a2 => none) (fun a2 => [(h0, .inr (2, [.ref he, .int (zI cm)])), (he, .inl (cI, 64, .inl (zA a2)))]) := by
  refine z_start (cc := cX3_takeRow) (maxL := 2) (ret := none) (own := RX3) (by decide) rfl rfl (Nat.le_of_ble_eq_true rfl) [(0, .ref h0), (1, .ref h1)] rfl ?_
  intro pp ee s mm below meth cc A H ls hx hb hr hml hts hown hlocks hin hK hA hP hD hS hR0 hR hl
  have CF : CallFix pp mm cc cX3_takeRow 2 s ([.ref h0, .ref h1] : List Value).toArray wsX3_takeRow RX3 := ⟨hx, hb, hml, hown, hts⟩
  have hi3 : ∀ w ∈ wsX30, w ∈ wsX3_takeRow := by decide +kernel
  refine lv_aload_n hx hb dX3_takeRow_0 rfl (lv_at hl 0 rfl) ?_
  refine lv_aload_n hx hb dX3_takeRow_1 rfl (lv_at hl 1 rfl) ?_
  refine va_get (D := D) (ci := 2) (C := RX3) (T := TX3) (N := 2) hx hb hts hi3 hown hK hR 0 rfl rfl 0 (by decide) (hts (.fieldLink RX3 9 "ButterflyYard$Row" "entries" "[I") (by decide +kernel)) (fun _ h9 => h9) rfl dX3_takeRow_2 ?_
  refine lv_aload_n hx hb dX3_takeRow_5 rfl (lv_at hl 1 rfl) ?_
  refine va_get (D := D) (ci := 2) (C := RX3) (T := TX3) (N := 2) hx hb hts hi3 hown hK hR 0 rfl rfl 1 (by decide) (hts (.fieldLink RX3 15 "ButterflyYard$Row" "count" "I") (by decide +kernel)) (fun _ h9 => h9) rfl dX3_takeRow_6 ?_
  have hRc := z_subR (ws := [(h0, .inr (2, [.ref he, .int (zI cn)])), (he, .inl (cI, 64, .inl (zA a)))]) (rs := [(h1, .inr (2, [.ref hf, .int (zI cm)])), (hf, .inl (cI, 64, .inl (zA b)))]) (rc := [(hf, .inl (cI, 64, .inl (zA b)))]) hP hR (isR := [3]) rfl
  have hPc := hP.sub (ws' := [(h0, .inr (2, [.ref he, .int (zI cn)])), (he, .inl (cI, 64, .inl (zA a)))]) [0, 1] rfl
  have hDc := hD.sub (ws' := [(h0, .inr (2, [.ref he, .int (zI cn)])), (he, .inl (cI, 64, .inl (zA a)))]) [0, 1] (by decide) rfl
  refine z_mu (ws := [(h0, .inr (2, [.ref he, .int (zI cn)])), (he, .inl (cI, 64, .inl (zA a)))]) (wc := [(h0, .inr (2, [.ref he, .int (zI cn)])), (he, .inl (cI, 64, .inl (zA a)))]) (wr := []) (va_runV (As := [.ref hf, .int (zI cm)]) (rest := []) CF (c_X3_take l D cI h0 he cn a hf b cm (by omega) H.size) (cwV 2 hts gX3_takeRow_X3_take rfl rfl rfl (by decide +kernel) ⟨Nat.le_of_ble_eq_true rfl, Nat.le_of_ble_eq_true rfl⟩) (z_preV (va_recv hK hP (ci := 2) (q0 := 0) rfl rfl) hPc hDc hRc (z_dis (ws := [(h0, .inr (2, [.ref he, .int (zI cn)])), (he, .inl (cI, 64, .inl (zA a)))]) (rs := [(h1, .inr (2, [.ref hf, .int (zI cm)])), (hf, .inl (cI, 64, .inl (zA b)))]) (wc := [(h0, .inr (2, [.ref he, .int (zI cn)])), (he, .inl (cI, 64, .inl (zA a)))]) (rc := [(hf, .inl (cI, 64, .inl (zA b)))]) hD hR0 (isC := [0, 1]) (isR := [3]) rfl rfl (by decide)) (hK.sub (tys' := [(cI, .int)]) [0] rfl)) rfl rfl hl.1 rfl (lv_room (Nat.le_of_ble_eq_true rfl)) dX3_takeRow_9 ⟨Nat.le_of_ble_eq_true rfl, Nat.le_of_ble_eq_true rfl⟩) hP hD hS hA [0, 1] [] rfl rfl (by decide) (by decide) (cells' := 0) (slots' := 0) rfl rfl (fun u_9 H locs hp_9 hP hD hS => ?_)
  revert hp_9 hP hD
  generalize u_9 = a2_9
  intro hp_9 hP hD
  have hp_9 : ∀ k, 0 ≤ k → k < cm → a2_9 k = b k := hp_9
  have hP := hP.sub (ws' := [(h0, .inr (2, [.ref he, .int (zI cm)])), (he, .inl (cI, 64, .inl (zA a2_9)))]) [0, 1] rfl
  have hD := hD.sub (ws' := [(h0, .inr (2, [.ref he, .int (zI cm)])), (he, .inl (cI, 64, .inl (zA a2_9)))]) [0, 1] (by decide) rfl
  have hR := hR0.at hS
  exact z_vret hx hb hr hlocks a2_9 rfl (by exact hp_9) hP hD hS dX3_takeRow_12

set_option maxHeartbeats 4000000 in
set_option maxRecDepth 100000 in
theorem c_X3_takeRow_self (l : Launch) (D : va_G) (cI : ClassId) (h0 : Nat) (he : Nat) (cn : Int) (a : Int → Int) (hcn : 0 ≤ cn ∧ cn ≤ 64) : zC l yX3_takeRow wsX3_takeRow ({ frames := 2, cells := 0, slots := 0, locals := 37 } : Room) D [(cI, .int)] [(h0, .inr (2, [.ref he, .int (zI cn)])), (he, .inl (cI, 64, .inl (zA a)))] [] [.ref h0, .ref h0] (S := Int → Int) (fun a2 => ∀ k, 0 ≤ k → k < cn → a2 k = a k) (fun a2 => none) (fun a2 => [(h0, .inr (2, [.ref he, .int (zI cn)])), (he, .inl (cI, 64, .inl (zA a2)))]) := by
  refine z_start (cc := cX3_takeRow) (maxL := 2) (ret := none) (own := RX3) (by decide) rfl rfl (Nat.le_of_ble_eq_true rfl) [(0, .ref h0), (1, .ref h0)] rfl ?_
  intro pp ee s mm below meth cc A H ls hx hb hr hml hts hown hlocks hin hK hA hP hD hS hR0 hR hl
  have CF : CallFix pp mm cc cX3_takeRow 2 s ([.ref h0, .ref h0] : List Value).toArray wsX3_takeRow RX3 := ⟨hx, hb, hml, hown, hts⟩
  have hi3 : ∀ w ∈ wsX30, w ∈ wsX3_takeRow := by decide +kernel
  refine lv_aload_n hx hb dX3_takeRow_0 rfl (lv_at hl 0 rfl) ?_
  refine lv_aload_n hx hb dX3_takeRow_1 rfl (lv_at hl 1 rfl) ?_
  refine va_get (D := D) (ci := 2) (C := RX3) (T := TX3) (N := 2) hx hb hts hi3 hown hK hP 0 rfl rfl 0 (by decide) (hts (.fieldLink RX3 9 "ButterflyYard$Row" "entries" "[I") (by decide +kernel)) (fun _ h9 => h9) rfl dX3_takeRow_2 ?_
  refine lv_aload_n hx hb dX3_takeRow_5 rfl (lv_at hl 1 rfl) ?_
  refine va_get (D := D) (ci := 2) (C := RX3) (T := TX3) (N := 2) hx hb hts hi3 hown hK hP 0 rfl rfl 1 (by decide) (hts (.fieldLink RX3 15 "ButterflyYard$Row" "count" "I") (by decide +kernel)) (fun _ h9 => h9) rfl dX3_takeRow_6 ?_
  have hRc : va_P D vwCl [] H := z_nilP
  have hPc := hP.sub (ws' := [(h0, .inr (2, [.ref he, .int (zI cn)])), (he, .inl (cI, 64, .inl (zA a)))]) [0, 1] rfl
  have hDc := hD.sub (ws' := [(h0, .inr (2, [.ref he, .int (zI cn)])), (he, .inl (cI, 64, .inl (zA a)))]) [0, 1] (by decide) rfl
  refine z_mu (ws := [(h0, .inr (2, [.ref he, .int (zI cn)])), (he, .inl (cI, 64, .inl (zA a)))]) (wc := [(h0, .inr (2, [.ref he, .int (zI cn)])), (he, .inl (cI, 64, .inl (zA a)))]) (wr := []) (va_runV (As := [.ref he, .int (zI cn)]) (rest := []) CF (c_X3_take_self l D cI h0 he cn a cn (by omega) H.size) (cwV 2 hts gX3_takeRow_X3_take rfl rfl rfl (by decide +kernel) ⟨Nat.le_of_ble_eq_true rfl, Nat.le_of_ble_eq_true rfl⟩) (z_preV (va_recv hK hP (ci := 2) (q0 := 0) rfl rfl) hPc hDc hRc (z_dis (ws := [(h0, .inr (2, [.ref he, .int (zI cn)])), (he, .inl (cI, 64, .inl (zA a)))]) (rs := []) (wc := [(h0, .inr (2, [.ref he, .int (zI cn)])), (he, .inl (cI, 64, .inl (zA a)))]) (rc := []) hD hR0 (isC := [0, 1]) (isR := []) rfl rfl (by decide)) (hK.sub (tys' := [(cI, .int)]) [0] rfl)) rfl rfl hl.1 rfl (lv_room (Nat.le_of_ble_eq_true rfl)) dX3_takeRow_9 ⟨Nat.le_of_ble_eq_true rfl, Nat.le_of_ble_eq_true rfl⟩) hP hD hS hA [0, 1] [] rfl rfl (by decide) (by decide) (cells' := 0) (slots' := 0) rfl rfl (fun u_9 H locs hp_9 hP hD hS => ?_)
  revert hp_9 hP hD
  generalize u_9 = a2_9
  intro hp_9 hP hD
  have hp_9 : ∀ k, 0 ≤ k → k < cn → a2_9 k = a k := hp_9
  have hP := hP.sub (ws' := [(h0, .inr (2, [.ref he, .int (zI cn)])), (he, .inl (cI, 64, .inl (zA a2_9)))]) [0, 1] rfl
  have hD := hD.sub (ws' := [(h0, .inr (2, [.ref he, .int (zI cn)])), (he, .inl (cI, 64, .inl (zA a2_9)))]) [0, 1] (by decide) rfl
  exact z_vret hx hb hr hlocks a2_9 rfl (by exact hp_9) hP hD hS dX3_takeRow_12

set_option maxHeartbeats 4000000 in
set_option maxRecDepth 100000 in
theorem c_X3_isWithin (l : Launch) (D : va_G) (cI : ClassId) (h0 : Nat) (he : Nat) (cn : Int) (a : Int → Int) (lo : Int) (hi : Int) (hcn : 0 ≤ cn ∧ cn ≤ 64) (hlo : -2147483648 ≤ lo ∧ lo ≤ 2147483647) (hhi : -2147483648 ≤ hi ∧ hi ≤ 2147483647) (har : ∀ k, 0 ≤ k → k < cn → -2147483648 ≤ a k ∧ a k ≤ 2147483647) : zF l yX3_isWithin wsX3_isWithin ({ frames := 0, cells := 0, slots := 0, locals := 0 } : Room) D [(cI, .int)] [(h0, .inr (2, [.ref he, .int (zI cn)])), (he, .inl (cI, 64, .inl (zA a)))] [.ref h0, .int (zI lo), .int (zI hi)] (some (.int (zI (zB (zAll (fun k => decide (lo ≤ a k ∧ a k ≤ hi)) cn.toNat = true))))) := by
  refine z_start (cc := cX3_isWithin) (maxL := 4) (ret := (some .boolean)) (own := RX3) (by decide) rfl rfl (Nat.le_of_ble_eq_true rfl) [(0, .ref h0), (1, .int (zI lo)), (2, .int (zI hi))] rfl ?_
  intro pp ee s mm below meth cc A H ls hx hb hr hml hts hown hlocks hin hK hA hP hD hS hR0 hR hl
  have CF : CallFix pp mm cc cX3_isWithin 4 s ([.ref h0, .int (zI lo), .int (zI hi)] : List Value).toArray wsX3_isWithin RX3 := ⟨hx, hb, hml, hown, hts⟩
  have hi3 : ∀ w ∈ wsX30, w ∈ wsX3_isWithin := by decide +kernel
  refine z_iconst hx hb dX3_isWithin_0 ?_
  refine lv_istore_n (lv' := [(3, .int (zI 0)), (0, .ref h0), (1, .int (zI lo)), (2, .int (zI hi))]) hx hb dX3_isWithin_1 rfl hl (by decide) rfl (fun ls hl => ?_)
  have hl := lv_sub hl [1, 2, 3, 0] rfl
  have hl : lv_has ls 4 [(0, .ref h0), (1, .int (zI lo)), (2, .int (zI hi)), (3, .int (zI 0))] := hl
  refine z_loop (σ := Int) (fun i => (cn - i).toNat) (fun i H locs ls => (0 ≤ i ∧ i ≤ cn) ∧ (∀ k, 0 ≤ k → k < i → lo ≤ a k ∧ a k ≤ hi) ∧ va_S A s.heap H locs ∧ lv_has ls 4 [(0, .ref h0), (1, .int (zI lo)), (2, .int (zI hi)), (3, .int (zI i))]) 0 ⟨(by omega), (fun k h1 h2 => absurd h2 (by omega)), hS, hl⟩ ?_
  intro i H locs ls hI ih_2
  obtain ⟨hi_, hf, hS, hl⟩ := hI
  have hR := hR0.at hS
  refine lv_iload_n hx hb dX3_isWithin_2 rfl (lv_at hl 3 rfl) ?_
  refine lv_aload_n hx hb dX3_isWithin_3 rfl (lv_at hl 0 rfl) ?_
  refine va_get (D := D) (ci := 2) (C := RX3) (T := TX3) (N := 2) hx hb hts hi3 hown hK hR 0 rfl rfl 1 (by decide) (hts (.fieldLink RX3 15 "ButterflyYard$Row" "count" "I") (by decide +kernel)) (fun _ h9 => h9) rfl dX3_isWithin_4 ?_
  refine z_icmp_ge (tgt := 38) hx hb dX3_isWithin_7 (by decide) (by omega) (fun c_7 => ?_) (fun c_7 => ?_)
  · refine z_iconst hx hb dX3_isWithin_38 ?_
    have hres : zB (zAll (fun k => decide (lo ≤ a k ∧ a k ≤ hi)) cn.toNat = true) = 1 := by rw [zB_t ((zAll_iff _ _).mpr (fun k h1 h2 => decide_eq_true (hf k h1 (by omega))))]
    exact z_iret hx hb hr hlocks (rfl) () (congrArg (fun z => some (Value.int (zI z))) hres) (trivial) z_nilP z_nilD hS dX3_isWithin_39
  · have hai := har i (by omega) (by omega)
    refine lv_aload_n hx hb dX3_isWithin_10 rfl (lv_at hl 0 rfl) ?_
    refine va_get (D := D) (ci := 2) (C := RX3) (T := TX3) (N := 2) hx hb hts hi3 hown hK hR 0 rfl rfl 0 (by decide) (hts (.fieldLink RX3 9 "ButterflyYard$Row" "entries" "[I") (by decide +kernel)) (fun _ h9 => h9) rfl dX3_isWithin_11 ?_
    refine lv_iload_n hx hb dX3_isWithin_14 rfl (lv_at hl 3 rfl) ?_
    refine z_iald (cA := cI) (n := 64) (g := a) hx hb hK hR 1 0 rfl rfl rfl (by omega) dX3_isWithin_15 ?_
    refine lv_iload_n hx hb dX3_isWithin_16 rfl (lv_at hl 1 rfl) ?_
    refine z_icmp_lt (tgt := 30) hx hb dX3_isWithin_17 (by decide) (by omega) (fun c_17 => ?_) (fun c_17 => ?_)
    · refine z_iconst hx hb dX3_isWithin_30 ?_
      have hres : zB (zAll (fun k => decide (lo ≤ a k ∧ a k ≤ hi)) cn.toNat = true) = 0 := by rw [zB_f (fun q => by have := of_decide_eq_true ((zAll_iff _ _).mp q i (by omega) (by omega)); omega)]
      exact z_iret hx hb hr hlocks (rfl) () (congrArg (fun z => some (Value.int (zI z))) hres) (trivial) z_nilP z_nilD hS dX3_isWithin_31
    · refine lv_aload_n hx hb dX3_isWithin_20 rfl (lv_at hl 0 rfl) ?_
      refine va_get (D := D) (ci := 2) (C := RX3) (T := TX3) (N := 2) hx hb hts hi3 hown hK hR 0 rfl rfl 0 (by decide) (hts (.fieldLink RX3 9 "ButterflyYard$Row" "entries" "[I") (by decide +kernel)) (fun _ h9 => h9) rfl dX3_isWithin_21 ?_
      refine lv_iload_n hx hb dX3_isWithin_24 rfl (lv_at hl 3 rfl) ?_
      refine z_iald (cA := cI) (n := 64) (g := a) hx hb hK hR 1 0 rfl rfl rfl (by omega) dX3_isWithin_25 ?_
      refine lv_iload_n hx hb dX3_isWithin_26 rfl (lv_at hl 2 rfl) ?_
      refine z_icmp_le (tgt := 32) hx hb dX3_isWithin_27 (by decide) (by omega) (fun c_27 => ?_) (fun c_27 => ?_)
      · refine lv_iinc (v := zI (i + 1)) (lv' := [(3, .int (zI (i + 1))), (0, .ref h0), (1, .int (zI lo)), (2, .int (zI hi))]) hx hb dX3_isWithin_32 hl (k := 3) rfl (zI_add _ _) (by decide) rfl (fun ls hl => ?_)
        have hl := lv_sub hl [1, 2, 3, 0] rfl
        have hl : lv_has ls 4 [(0, .ref h0), (1, .int (zI lo)), (2, .int (zI hi)), (3, .int (zI (i + 1)))] := hl
        refine lv_goto (tgt := 2) hx hb dX3_isWithin_35 (by decide) ?_
        exact ih_2 (i + 1) _ _ _ ⟨(by omega), (by exact fun k h1 h2 => by by_cases e : k = i; (subst e; exact ⟨c_17, c_27⟩); exact hf k h1 (by omega)), hS, hl⟩ (by show (cn - (i + 1)).toNat < (cn - i).toNat; omega)
      · refine z_iconst hx hb dX3_isWithin_30 ?_
        have hres : zB (zAll (fun k => decide (lo ≤ a k ∧ a k ≤ hi)) cn.toNat = true) = 0 := by rw [zB_f (fun q => by have := of_decide_eq_true ((zAll_iff _ _).mp q i (by omega) (by omega)); omega)]
        exact z_iret hx hb hr hlocks (rfl) () (congrArg (fun z => some (Value.int (zI z))) hres) (trivial) z_nilP z_nilD hS dX3_isWithin_31

set_option maxHeartbeats 4000000 in
set_option maxRecDepth 100000 in
theorem c_X3_loadRemainders (l : Launch) (D : va_G) (cI : ClassId) (h0 : Nat) (he : Nat) (cn : Int) (a : Int → Int) (h1 : Nat) (p : Int) (n : Int) (iv : Int) (wy : Int) (gn : Int) (hw : Nat) (h2 : Nat) (t : Int → Int) (hcn : 0 ≤ cn ∧ cn ≤ 64) (hn : 1 ≤ n ∧ n ≤ 64) (hp : 1 ≤ p ∧ p ≤ 10000) (har : ∀ k, 0 ≤ k → k < cn → -2147483648 ≤ a k ∧ a k ≤ 2147483647) : zC l yX3_loadRemainders wsX3_loadRemainders ({ frames := 2, cells := 0, slots := 0, locals := 46 } : Room) D [(cI, .int)] [(h2, .inl (cI, 64, .inl (zA t)))] [(h0, .inr (2, [.ref he, .int (zI cn)])), (he, .inl (cI, 64, .inl (zA a))), (h1, .inr (1, [.int (zI p), .int (zI n), .int (zI iv), .int (zI wy), .int (zI gn), .ref hw]))] [.ref h0, .ref h1, .ref h2] (S := Int → Int) (fun t2 => ∀ k, 0 ≤ k → k < n → t2 k = rowAt a cn k % p) (fun t2 => none) (fun t2 => [(h2, .inl (cI, 64, .inl (zA t2)))]) := by
  refine z_start (cc := cX3_loadRemainders) (maxL := 4) (ret := none) (own := RX3) (by decide) rfl rfl (Nat.le_of_ble_eq_true rfl) [(0, .ref h0), (1, .ref h1), (2, .ref h2)] rfl ?_
  intro pp ee s mm below meth cc A H ls hx hb hr hml hts hown hlocks hin hK hA hP hD hS hR0 hR hl
  have CF : CallFix pp mm cc cX3_loadRemainders 4 s ([.ref h0, .ref h1, .ref h2] : List Value).toArray wsX3_loadRemainders RX3 := ⟨hx, hb, hml, hown, hts⟩
  refine z_iconst hx hb dX3_loadRemainders_0 ?_
  refine lv_istore_n (lv' := [(3, .int (zI 0)), (0, .ref h0), (1, .ref h1), (2, .ref h2)]) hx hb dX3_loadRemainders_1 rfl hl (by decide) rfl (fun ls hl => ?_)
  have hl := lv_sub hl [1, 2, 3, 0] rfl
  have hl : lv_has ls 4 [(0, .ref h0), (1, .ref h1), (2, .ref h2), (3, .int (zI 0))] := hl
  refine z_loop (σ := Int × (Int → Int)) (fun (i, t2) => (n - i).toNat) (fun (i, t2) H locs ls => (0 ≤ i ∧ i ≤ n) ∧ (∀ k, 0 ≤ k → k < i → t2 k = rowAt a cn k % p) ∧ va_P D vwCl [(h2, .inl (cI, 64, .inl (zA t2)))] H ∧ va_D A [(h2, .inl (cI, 64, .inl (zA t2)))] ∧ va_S A s.heap H locs ∧ lv_has ls 4 [(0, .ref h0), (1, .ref h1), (2, .ref h2), (3, .int (zI i))]) (0, t) ⟨(by omega), (fun k h1 h2 => absurd h2 (by omega)), hP, hD, hS, hl⟩ ?_
  intro ⟨i, t2⟩ H locs ls hI ih_2
  obtain ⟨hi, hf, hP, hD, hS, hl⟩ := hI
  have hR := hR0.at hS
  refine lv_iload_n hx hb dX3_loadRemainders_2 rfl (lv_at hl 3 rfl) ?_
  refine lv_aload_n hx hb dX3_loadRemainders_3 rfl (lv_at hl 1 rfl) ?_
  have hRc := z_subR (ws := [(h2, .inl (cI, 64, .inl (zA t2)))]) (rs := [(h0, .inr (2, [.ref he, .int (zI cn)])), (he, .inl (cI, 64, .inl (zA a))), (h1, .inr (1, [.int (zI p), .int (zI n), .int (zI iv), .int (zI wy), .int (zI gn), .ref hw]))]) (rc := [(h1, .inr (1, [.int (zI p), .int (zI n), .int (zI iv), .int (zI wy), .int (zI gn), .ref hw]))]) hP hR (isR := [3]) rfl
  refine z_ro (ws := [(h2, .inl (cI, 64, .inl (zA t2)))]) (va_runV (As := []) (rest := [.int (zI i)]) CF (c_X2_size l D h1 p n iv wy gn hw H.size) (cwV 0 hts gX3_loadRemainders_X2_size rfl rfl rfl (by decide +kernel) ⟨Nat.le_of_ble_eq_true rfl, Nat.le_of_ble_eq_true rfl⟩) (z_preV (va_recv hK hR (ci := 1) (q0 := 2) rfl rfl) z_nilP (z_nilD (A := A)) hRc z_noX (hK.sub (tys' := []) [] rfl)) rfl rfl hl.1 rfl (lv_room (Nat.le_of_ble_eq_true rfl)) dX3_loadRemainders_4 ⟨Nat.le_of_ble_eq_true rfl, Nat.le_of_ble_eq_true rfl⟩) hP hS hA (cells' := 0) (slots' := 0) rfl rfl (fun H locs hP hS => ?_)
  have hR := hR0.at hS
  refine z_icmp_ge (tgt := 29) hx hb dX3_loadRemainders_7 (by decide) (by omega) (fun c_7 => ?_) (fun c_7 => ?_)
  · exact z_vret hx hb hr hlocks t2 rfl (fun k h1 h2 => hf k h1 (by omega)) hP hD hS dX3_loadRemainders_29
  · refine lv_aload_n hx hb dX3_loadRemainders_10 rfl (lv_at hl 2 rfl) ?_
    refine lv_iload_n hx hb dX3_loadRemainders_11 rfl (lv_at hl 3 rfl) ?_
    refine lv_aload_n hx hb dX3_loadRemainders_12 rfl (lv_at hl 1 rfl) ?_
    refine lv_aload_n hx hb dX3_loadRemainders_13 rfl (lv_at hl 0 rfl) ?_
    refine lv_iload_n hx hb dX3_loadRemainders_14 rfl (lv_at hl 3 rfl) ?_
    have hRc := z_subR (ws := [(h2, .inl (cI, 64, .inl (zA t2)))]) (rs := [(h0, .inr (2, [.ref he, .int (zI cn)])), (he, .inl (cI, 64, .inl (zA a))), (h1, .inr (1, [.int (zI p), .int (zI n), .int (zI iv), .int (zI wy), .int (zI gn), .ref hw]))]) (rc := [(h0, .inr (2, [.ref he, .int (zI cn)])), (he, .inl (cI, 64, .inl (zA a)))]) hP hR (isR := [1, 2]) rfl
    refine z_ro (ws := [(h2, .inl (cI, 64, .inl (zA t2)))]) (va_runV (As := [.int (zI i)]) (rest := [.ref h1, .int (zI i), .ref h2]) CF (c_X3_entry l D cI h0 he cn a i (by omega) (by omega) H.size) (cwV 1 hts gX3_loadRemainders_X3_entry rfl rfl rfl (by decide +kernel) ⟨Nat.le_of_ble_eq_true rfl, Nat.le_of_ble_eq_true rfl⟩) (z_preV (va_recv hK hR (ci := 2) (q0 := 0) rfl rfl) z_nilP (z_nilD (A := A)) hRc z_noX (hK.sub (tys' := [(cI, .int)]) [0] rfl)) rfl rfl hl.1 rfl (lv_room (Nat.le_of_ble_eq_true rfl)) dX3_loadRemainders_15 ⟨Nat.le_of_ble_eq_true rfl, Nat.le_of_ble_eq_true rfl⟩) hP hS hA (cells' := 0) (slots' := 0) rfl rfl (fun H locs hP hS => ?_)
    have hR := hR0.at hS
    have hra := rowAt_rng (k := i) har (by omega)
    refine z_i2l hx hb dX3_loadRemainders_18 (by omega) ?_
    have hRc := z_subR (ws := [(h2, .inl (cI, 64, .inl (zA t2)))]) (rs := [(h0, .inr (2, [.ref he, .int (zI cn)])), (he, .inl (cI, 64, .inl (zA a))), (h1, .inr (1, [.int (zI p), .int (zI n), .int (zI iv), .int (zI wy), .int (zI gn), .ref hw]))]) (rc := [(h1, .inr (1, [.int (zI p), .int (zI n), .int (zI iv), .int (zI wy), .int (zI gn), .ref hw]))]) hP hR (isR := [3]) rfl
    refine z_ro (ws := [(h2, .inl (cI, 64, .inl (zA t2)))]) (va_runV (As := [.long (zL (rowAt a cn i))]) (rest := [.int (zI i), .ref h2]) CF (c_X2_remainder l D h1 p n iv wy gn hw (rowAt a cn i) (by omega) (by omega) H.size) (cwV 1 hts gX3_loadRemainders_X2_remainder rfl rfl rfl (by decide +kernel) ⟨Nat.le_of_ble_eq_true rfl, Nat.le_of_ble_eq_true rfl⟩) (z_preV (va_recv hK hR (ci := 1) (q0 := 2) rfl rfl) z_nilP (z_nilD (A := A)) hRc z_noX (hK.sub (tys' := []) [] rfl)) rfl rfl hl.1 rfl (lv_room (Nat.le_of_ble_eq_true rfl)) dX3_loadRemainders_19 ⟨Nat.le_of_ble_eq_true rfl, Nat.le_of_ble_eq_true rfl⟩) hP hS hA (cells' := 0) (slots' := 0) rfl rfl (fun H locs hP hS => ?_)
    have hR := hR0.at hS
    refine z_iast (cA := cI) (n := 64) (g := t2) (i := i) (v := (rowAt a cn i) % p) hx hb hK hP hD hS 0 0 rfl rfl rfl (by omega) dX3_loadRemainders_22 (fun H locs hP hD hS => ?_)
    have hP : va_P D vwCl [(h2, .inl (cI, 64, .inl (zA (zU t2 i ((rowAt a cn i) % p)))))] H := hP
    have hD : va_D A [(h2, .inl (cI, 64, .inl (zA (zU t2 i ((rowAt a cn i) % p)))))] := hD
    have hR := hR0.at hS
    refine lv_iinc (v := zI (i + 1)) (lv' := [(3, .int (zI (i + 1))), (0, .ref h0), (1, .ref h1), (2, .ref h2)]) hx hb dX3_loadRemainders_23 hl (k := 3) rfl (zI_add _ _) (by decide) rfl (fun ls hl => ?_)
    have hl := lv_sub hl [1, 2, 3, 0] rfl
    have hl : lv_has ls 4 [(0, .ref h0), (1, .ref h1), (2, .ref h2), (3, .int (zI (i + 1)))] := hl
    refine lv_goto (tgt := 2) hx hb dX3_loadRemainders_26 (by decide) ?_
    exact ih_2 (i + 1, zU t2 i ((rowAt a cn i) % p)) _ _ _ ⟨(by omega), (by exact zU_fill hf rfl), hP, hD, hS, hl⟩ (by show (n - (i + 1)).toNat < (n - i).toNat; omega)

