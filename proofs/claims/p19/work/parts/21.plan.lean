set_option maxHeartbeats 4000000 in
set_option maxRecDepth 100000 in
theorem c_X2_size (l : Launch) (D : va_G) (h0 : Nat) (p : Int) (n : Int) (iv : Int) (wy : Int) (gn : Int) (hw : Nat) : zF l yX2_size wsX2_size ({ frames := 0, cells := 0, slots := 0, locals := 0 } : Room) D [] [(h0, .inr (1, [.int (zI p), .int (zI n), .int (zI iv), .int (zI wy), .int (zI gn), .ref hw]))] [.ref h0] (some (.int (zI n))) := by
  refine z_start (cc := cX2_size) (maxL := 1) (ret := (some .int)) (own := RX2) (by decide) rfl rfl (Nat.le_of_ble_eq_true rfl) [(0, .ref h0)] rfl ?_
  intro pp ee s mm below meth cc A H ls hx hb hr hml hts hown hlocks hin hK hA hP hD hS hR0 hR hl
  have CF : CallFix pp mm cc cX2_size 1 s ([.ref h0] : List Value).toArray wsX2_size RX2 := ⟨hx, hb, hml, hown, hts⟩
  have hi2 : ∀ w ∈ wsX20, w ∈ wsX2_size := by decide +kernel
  refine lv_aload_n hx hb dX2_size_0 rfl (lv_at hl 0 rfl) ?_
  refine va_get (D := D) (ci := 1) (C := RX2) (T := TX2) (N := 6) hx hb hts hi2 hown hK hR 0 rfl rfl 1 (by decide) (hts (.fieldLink RX2 19 "ButterflyYard$Plan" "size" "I") (by decide +kernel)) (fun _ h9 => h9) rfl dX2_size_1 ?_
  exact z_iret hx hb hr hlocks rfl () (rfl) (trivial) z_nilP z_nilD hS dX2_size_4

set_option maxHeartbeats 4000000 in
set_option maxRecDepth 100000 in
theorem c_X2_wayset (l : Launch) (D : va_G) (h0 : Nat) (p : Int) (n : Int) (iv : Int) (wy : Int) (gn : Int) (hw : Nat) : zF l yX2_wayset wsX2_wayset ({ frames := 0, cells := 0, slots := 0, locals := 0 } : Room) D [] [(h0, .inr (1, [.int (zI p), .int (zI n), .int (zI iv), .int (zI wy), .int (zI gn), .ref hw]))] [.ref h0] (some (.int (zI wy))) := by
  refine z_start (cc := cX2_wayset) (maxL := 1) (ret := (some .int)) (own := RX2) (by decide) rfl rfl (Nat.le_of_ble_eq_true rfl) [(0, .ref h0)] rfl ?_
  intro pp ee s mm below meth cc A H ls hx hb hr hml hts hown hlocks hin hK hA hP hD hS hR0 hR hl
  have CF : CallFix pp mm cc cX2_wayset 1 s ([.ref h0] : List Value).toArray wsX2_wayset RX2 := ⟨hx, hb, hml, hown, hts⟩
  have hi2 : ∀ w ∈ wsX20, w ∈ wsX2_wayset := by decide +kernel
  refine lv_aload_n hx hb dX2_wayset_0 rfl (lv_at hl 0 rfl) ?_
  refine va_get (D := D) (ci := 1) (C := RX2) (T := TX2) (N := 6) hx hb hts hi2 hown hK hR 0 rfl rfl 3 (by decide) (hts (.fieldLink RX2 42 "ButterflyYard$Plan" "wayset" "I") (by decide +kernel)) (fun _ h9 => h9) rfl dX2_wayset_1 ?_
  exact z_iret hx hb hr hlocks rfl () (rfl) (trivial) z_nilP z_nilD hS dX2_wayset_4

set_option maxHeartbeats 4000000 in
set_option maxRecDepth 100000 in
theorem c_X2_generator (l : Launch) (D : va_G) (h0 : Nat) (p : Int) (n : Int) (iv : Int) (wy : Int) (gn : Int) (hw : Nat) : zF l yX2_generator wsX2_generator ({ frames := 0, cells := 0, slots := 0, locals := 0 } : Room) D [] [(h0, .inr (1, [.int (zI p), .int (zI n), .int (zI iv), .int (zI wy), .int (zI gn), .ref hw]))] [.ref h0] (some (.int (zI gn))) := by
  refine z_start (cc := cX2_generator) (maxL := 1) (ret := (some .int)) (own := RX2) (by decide) rfl rfl (Nat.le_of_ble_eq_true rfl) [(0, .ref h0)] rfl ?_
  intro pp ee s mm below meth cc A H ls hx hb hr hml hts hown hlocks hin hK hA hP hD hS hR0 hR hl
  have CF : CallFix pp mm cc cX2_generator 1 s ([.ref h0] : List Value).toArray wsX2_generator RX2 := ⟨hx, hb, hml, hown, hts⟩
  have hi2 : ∀ w ∈ wsX20, w ∈ wsX2_generator := by decide +kernel
  refine lv_aload_n hx hb dX2_generator_0 rfl (lv_at hl 0 rfl) ?_
  refine va_get (D := D) (ci := 1) (C := RX2) (T := TX2) (N := 6) hx hb hts hi2 hown hK hR 0 rfl rfl 4 (by decide) (hts (.fieldLink RX2 49 "ButterflyYard$Plan" "generator" "I") (by decide +kernel)) (fun _ h9 => h9) rfl dX2_generator_1 ?_
  exact z_iret hx hb hr hlocks rfl () (rfl) (trivial) z_nilP z_nilD hS dX2_generator_4

set_option maxHeartbeats 4000000 in
set_option maxRecDepth 100000 in
theorem c_X2_backTurn (l : Launch) (D : va_G) (h0 : Nat) (p : Int) (n : Int) (iv : Int) (wy : Int) (gn : Int) (hw : Nat) : zF l yX2_backTurn wsX2_backTurn ({ frames := 0, cells := 0, slots := 0, locals := 0 } : Room) D [] [(h0, .inr (1, [.int (zI p), .int (zI n), .int (zI iv), .int (zI wy), .int (zI gn), .ref hw]))] [.ref h0] (some (.int (zI (n - 1)))) := by
  refine z_start (cc := cX2_backTurn) (maxL := 1) (ret := (some .int)) (own := RX2) (by decide) rfl rfl (Nat.le_of_ble_eq_true rfl) [(0, .ref h0)] rfl ?_
  intro pp ee s mm below meth cc A H ls hx hb hr hml hts hown hlocks hin hK hA hP hD hS hR0 hR hl
  have CF : CallFix pp mm cc cX2_backTurn 1 s ([.ref h0] : List Value).toArray wsX2_backTurn RX2 := ⟨hx, hb, hml, hown, hts⟩
  have hi2 : ∀ w ∈ wsX20, w ∈ wsX2_backTurn := by decide +kernel
  refine lv_aload_n hx hb dX2_backTurn_0 rfl (lv_at hl 0 rfl) ?_
  refine va_get (D := D) (ci := 1) (C := RX2) (T := TX2) (N := 6) hx hb hts hi2 hown hK hR 0 rfl rfl 1 (by decide) (hts (.fieldLink RX2 19 "ButterflyYard$Plan" "size" "I") (by decide +kernel)) (fun _ h9 => h9) rfl dX2_backTurn_1 ?_
  refine z_iconst hx hb dX2_backTurn_4 ?_
  refine z_isub hx hb dX2_backTurn_5 ?_
  exact z_iret hx hb hr hlocks rfl () (rfl) (trivial) z_nilP z_nilD hS dX2_backTurn_6

set_option maxHeartbeats 4000000 in
set_option maxRecDepth 100000 in
theorem c_X2_hasWay (l : Launch) (D : va_G) (h0 : Nat) (p : Int) (n : Int) (iv : Int) (wy : Int) (gn : Int) (hw : Nat) (w : Int) (hw0 : -2147483648 ≤ w ∧ w ≤ 2147483647) (hwy : 0 ≤ wy ∧ wy ≤ 31) : zF l yX2_hasWay wsX2_hasWay ({ frames := 0, cells := 0, slots := 0, locals := 0 } : Room) D [] [(h0, .inr (1, [.int (zI p), .int (zI n), .int (zI iv), .int (zI wy), .int (zI gn), .ref hw]))] [.ref h0, .int (zI w)] (some (.int (zI (zB (0 ≤ w ∧ w ≤ 4 ∧ wy / 2 ^ w.toNat % 2 = 1))))) := by
  refine z_start (cc := cX2_hasWay) (maxL := 2) (ret := (some .boolean)) (own := RX2) (by decide) rfl rfl (Nat.le_of_ble_eq_true rfl) [(0, .ref h0), (1, .int (zI w))] rfl ?_
  intro pp ee s mm below meth cc A H ls hx hb hr hml hts hown hlocks hin hK hA hP hD hS hR0 hR hl
  have CF : CallFix pp mm cc cX2_hasWay 2 s ([.ref h0, .int (zI w)] : List Value).toArray wsX2_hasWay RX2 := ⟨hx, hb, hml, hown, hts⟩
  have hi2 : ∀ w ∈ wsX20, w ∈ wsX2_hasWay := by decide +kernel
  refine lv_iload_n hx hb dX2_hasWay_0 rfl (lv_at hl 1 rfl) ?_
  refine z_if_lt (tgt := 25) hx hb dX2_hasWay_1 (by decide) (by omega) (fun c_1 => ?_) (fun c_1 => ?_)
  · refine z_iconst hx hb dX2_hasWay_25 ?_
    have hres : zB (0 ≤ w ∧ w ≤ 4 ∧ wy / 2 ^ w.toNat % 2 = 1) = 0 := by rw [zB_f (by intro q; first | exact absurd q.1 (by omega) | exact absurd q.2.1 (by omega) | exact absurd q.2.2 c_18)]
    exact z_iret hx hb hr hlocks (rfl) () (congrArg (fun z => some (Value.int (zI z))) hres) (trivial) z_nilP z_nilD hS dX2_hasWay_26
  · refine lv_iload_n hx hb dX2_hasWay_4 rfl (lv_at hl 1 rfl) ?_
    refine z_iconst hx hb dX2_hasWay_5 ?_
    refine z_icmp_gt (tgt := 25) hx hb dX2_hasWay_6 (by decide) (by omega) (fun c_6 => ?_) (fun c_6 => ?_)
    · refine z_iconst hx hb dX2_hasWay_25 ?_
      have hres : zB (0 ≤ w ∧ w ≤ 4 ∧ wy / 2 ^ w.toNat % 2 = 1) = 0 := by rw [zB_f (by intro q; first | exact absurd q.1 (by omega) | exact absurd q.2.1 (by omega) | exact absurd q.2.2 c_18)]
      exact z_iret hx hb hr hlocks (rfl) () (congrArg (fun z => some (Value.int (zI z))) hres) (trivial) z_nilP z_nilD hS dX2_hasWay_26
    · refine lv_aload_n hx hb dX2_hasWay_9 rfl (lv_at hl 0 rfl) ?_
      refine va_get (D := D) (ci := 1) (C := RX2) (T := TX2) (N := 6) hx hb hts hi2 hown hK hR 0 rfl rfl 3 (by decide) (hts (.fieldLink RX2 42 "ButterflyYard$Plan" "wayset" "I") (by decide +kernel)) (fun _ h9 => h9) rfl dX2_hasWay_10 ?_
      refine lv_iload_n hx hb dX2_hasWay_13 rfl (lv_at hl 1 rfl) ?_
      refine z_ishr hx hb dX2_hasWay_14 (by omega) (by omega) ?_
      refine z_iconst hx hb dX2_hasWay_15 ?_
      refine z_iand1 hx hb dX2_hasWay_16 (z_div (by omega) (Int.pow_pos (by decide)) (by omega)) ?_
      refine z_iconst hx hb dX2_hasWay_17 ?_
      refine z_icmp_ne (tgt := 25) hx hb dX2_hasWay_18 (by decide) (by omega) (fun c_18 => ?_) (fun c_18 => ?_)
      · refine z_iconst hx hb dX2_hasWay_25 ?_
        have hres : zB (0 ≤ w ∧ w ≤ 4 ∧ wy / 2 ^ w.toNat % 2 = 1) = 0 := by rw [zB_f (by intro q; first | exact absurd q.1 (by omega) | exact absurd q.2.1 (by omega) | exact absurd q.2.2 c_18)]
        exact z_iret hx hb hr hlocks (rfl) () (congrArg (fun z => some (Value.int (zI z))) hres) (trivial) z_nilP z_nilD hS dX2_hasWay_26
      · refine z_iconst hx hb dX2_hasWay_21 ?_
        refine lv_goto (tgt := 26) hx hb dX2_hasWay_22 (by decide) ?_
        have hres : zB (0 ≤ w ∧ w ≤ 4 ∧ wy / 2 ^ w.toNat % 2 = 1) = 1 := by rw [zB_t ⟨c_1, c_6, c_18⟩]
        exact z_iret hx hb hr hlocks (rfl) () (congrArg (fun z => some (Value.int (zI z))) hres) (trivial) z_nilP z_nilD hS dX2_hasWay_26

set_option maxHeartbeats 4000000 in
set_option maxRecDepth 100000 in
theorem c_X2_remainder (l : Launch) (D : va_G) (h0 : Nat) (p : Int) (n : Int) (iv : Int) (wy : Int) (gn : Int) (hw : Nat) (v : Int) (hv : -9223372036854775808 ≤ v ∧ v ≤ 9223372036854775807) (hp : 1 ≤ p ∧ p ≤ 2147483647) : zF l yX2_remainder wsX2_remainder ({ frames := 1, cells := 0, slots := 0, locals := 24 } : Room) D [] [(h0, .inr (1, [.int (zI p), .int (zI n), .int (zI iv), .int (zI wy), .int (zI gn), .ref hw]))] [.ref h0, .long (zL v)] (some (.int (zI (v % p)))) := by
  refine z_start (cc := cX2_remainder) (maxL := 3) (ret := (some .int)) (own := RX2) (by decide) rfl rfl (Nat.le_of_ble_eq_true rfl) [(0, .ref h0), (1, .long (zL v))] rfl ?_
  intro pp ee s mm below meth cc A H ls hx hb hr hml hts hown hlocks hin hK hA hP hD hS hR0 hR hl
  have CF : CallFix pp mm cc cX2_remainder 3 s ([.ref h0, .long (zL v)] : List Value).toArray wsX2_remainder RX2 := ⟨hx, hb, hml, hown, hts⟩
  have hi2 : ∀ w ∈ wsX20, w ∈ wsX2_remainder := by decide +kernel
  refine lv_lload_n hx hb dX2_remainder_0 rfl (lv_at hl 1 rfl) ?_
  refine lv_aload_n hx hb dX2_remainder_1 rfl (lv_at hl 0 rfl) ?_
  refine va_get (D := D) (ci := 1) (C := RX2) (T := TX2) (N := 6) hx hb hts hi2 hown hK hR 0 rfl rfl 0 (by decide) (hts (.fieldLink RX2 15 "ButterflyYard$Plan" "prime" "I") (by decide +kernel)) (fun _ h9 => h9) rfl dX2_remainder_2 ?_
  have hRc : va_P D vwCl [] H := z_nilP
  refine z_ro (ws := []) (va_runS (As := [.long (zL v), .int (zI p)]) (rest := []) CF (c_X1_remainder l D v p (by omega) (by omega) H.size) (va_cwS 2 hts gX2_remainder_X1_remainder rfl rfl rfl (by decide +kernel) ⟨Nat.le_of_ble_eq_true rfl, Nat.le_of_ble_eq_true rfl⟩) (z_preS z_nilP (z_nilD (A := A)) hRc z_noX (hK.sub (tys' := []) [] rfl)) rfl rfl hl.1 rfl (lv_room (Nat.le_of_ble_eq_true rfl)) dX2_remainder_5 ⟨Nat.le_of_ble_eq_true rfl, Nat.le_of_ble_eq_true rfl⟩) z_nilP hS hA (cells' := 0) (slots' := 0) rfl rfl (fun H locs hP hS => ?_)
  have hR := hR0.at hS
  exact z_iret hx hb hr hlocks rfl () (rfl) (trivial) z_nilP z_nilD hS dX2_remainder_8

set_option maxHeartbeats 4000000 in
set_option maxRecDepth 100000 in
theorem c_X2_power (l : Launch) (D : va_G) (cI : ClassId) (h0 : Nat) (p : Int) (n : Int) (iv : Int) (wy : Int) (gn : Int) (hw : Nat) (pw : Int → Int) (x : Int) (hx0 : -2147483648 ≤ x ∧ x ≤ 2147483647) (hn : 1 ≤ n ∧ n ≤ 64) : zF l yX2_power wsX2_power ({ frames := 1, cells := 0, slots := 0, locals := 24 } : Room) D [(cI, .int)] [(h0, .inr (1, [.int (zI p), .int (zI n), .int (zI iv), .int (zI wy), .int (zI gn), .ref hw])), (hw, .inl (cI, 64, .inl (zA pw)))] [.ref h0, .int (zI x)] (some (.int (zI (pw (x % n))))) := by
  refine z_start (cc := cX2_power) (maxL := 2) (ret := (some .int)) (own := RX2) (by decide) rfl rfl (Nat.le_of_ble_eq_true rfl) [(0, .ref h0), (1, .int (zI x))] rfl ?_
  intro pp ee s mm below meth cc A H ls hx hb hr hml hts hown hlocks hin hK hA hP hD hS hR0 hR hl
  have CF : CallFix pp mm cc cX2_power 2 s ([.ref h0, .int (zI x)] : List Value).toArray wsX2_power RX2 := ⟨hx, hb, hml, hown, hts⟩
  have hi2 : ∀ w ∈ wsX20, w ∈ wsX2_power := by decide +kernel
  refine lv_aload_n hx hb dX2_power_0 rfl (lv_at hl 0 rfl) ?_
  refine va_get (D := D) (ci := 1) (C := RX2) (T := TX2) (N := 6) hx hb hts hi2 hown hK hR 0 rfl rfl 5 (by decide) (hts (.fieldLink RX2 9 "ButterflyYard$Plan" "powers" "[I") (by decide +kernel)) (fun _ h9 => h9) rfl dX2_power_1 ?_
  refine lv_iload_n hx hb dX2_power_4 rfl (lv_at hl 1 rfl) ?_
  refine z_i2l hx hb dX2_power_5 (by omega) ?_
  refine lv_aload_n hx hb dX2_power_6 rfl (lv_at hl 0 rfl) ?_
  refine va_get (D := D) (ci := 1) (C := RX2) (T := TX2) (N := 6) hx hb hts hi2 hown hK hR 0 rfl rfl 1 (by decide) (hts (.fieldLink RX2 19 "ButterflyYard$Plan" "size" "I") (by decide +kernel)) (fun _ h9 => h9) rfl dX2_power_7 ?_
  have hRc : va_P D vwCl [] H := z_nilP
  refine z_ro (ws := []) (va_runS (As := [.long (zL x), .int (zI n)]) (rest := [.ref hw]) CF (c_X1_remainder l D x n (by omega) (by omega) H.size) (va_cwS 2 hts gX2_power_X1_remainder rfl rfl rfl (by decide +kernel) ⟨Nat.le_of_ble_eq_true rfl, Nat.le_of_ble_eq_true rfl⟩) (z_preS z_nilP (z_nilD (A := A)) hRc z_noX (hK.sub (tys' := []) [] rfl)) rfl rfl hl.1 rfl (lv_room (Nat.le_of_ble_eq_true rfl)) dX2_power_10 ⟨Nat.le_of_ble_eq_true rfl, Nat.le_of_ble_eq_true rfl⟩) z_nilP hS hA (cells' := 0) (slots' := 0) rfl rfl (fun H locs hP hS => ?_)
  have hR := hR0.at hS
  have hq1 := z_rem (a := x) (n := n) (by omega)
  refine z_iald (cA := cI) (n := 64) (g := pw) hx hb hK hR 1 0 rfl rfl rfl (by omega) dX2_power_13 ?_
  exact z_iret hx hb hr hlocks rfl () (rfl) (trivial) z_nilP z_nilD hS dX2_power_14

set_option maxHeartbeats 4000000 in
set_option maxRecDepth 100000 in
theorem c_X2_divideBySize (l : Launch) (D : va_G) (cI : ClassId) (h0 : Nat) (h1 : Nat) (p : Int) (n : Int) (iv : Int) (wy : Int) (gn : Int) (hw : Nat) (g : Int → Int) (hn : 1 ≤ n ∧ n ≤ 64) (hp : 1 ≤ p ∧ p ≤ 10000) (hiv : 0 ≤ iv ∧ iv ≤ 10000) (hg : ∀ k, 0 ≤ k → k < n → 0 ≤ g k ∧ g k ≤ 10000) : zC l yX2_divideBySize wsX2_divideBySize ({ frames := 2, cells := 0, slots := 0, locals := 46 } : Room) D [(cI, .int)] [(h1, .inl (cI, 64, .inl (zA g)))] [(h0, .inr (1, [.int (zI p), .int (zI n), .int (zI iv), .int (zI wy), .int (zI gn), .ref hw]))] [.ref h0, .ref h1] (S := Int → Int) (fun g2 => ∀ k, 0 ≤ k → k < n → g2 k = g k * iv % p) (fun g2 => none) (fun g2 => [(h1, .inl (cI, 64, .inl (zA g2)))]) := by
  refine z_start (cc := cX2_divideBySize) (maxL := 3) (ret := none) (own := RX2) (by decide) rfl rfl (Nat.le_of_ble_eq_true rfl) [(0, .ref h0), (1, .ref h1)] rfl ?_
  intro pp ee s mm below meth cc A H ls hx hb hr hml hts hown hlocks hin hK hA hP hD hS hR0 hR hl
  have CF : CallFix pp mm cc cX2_divideBySize 3 s ([.ref h0, .ref h1] : List Value).toArray wsX2_divideBySize RX2 := ⟨hx, hb, hml, hown, hts⟩
  have hi2 : ∀ w ∈ wsX20, w ∈ wsX2_divideBySize := by decide +kernel
  refine z_iconst hx hb dX2_divideBySize_0 ?_
  refine lv_istore_n (lv' := [(2, .int (zI 0)), (0, .ref h0), (1, .ref h1)]) hx hb dX2_divideBySize_1 rfl hl (by decide) rfl (fun ls hl => ?_)
  have hl := lv_sub hl [1, 2, 0] rfl
  have hl : lv_has ls 3 [(0, .ref h0), (1, .ref h1), (2, .int (zI 0))] := hl
  refine z_loop (σ := Int × (Int → Int)) (fun (i, g2) => (n - i).toNat) (fun (i, g2) H locs ls => (0 ≤ i ∧ i ≤ n) ∧ (∀ k, 0 ≤ k → k < i → g2 k = g k * iv % p) ∧ (∀ k, i ≤ k → g2 k = g k) ∧ va_P D vwCl [(h1, .inl (cI, 64, .inl (zA g2)))] H ∧ va_D A [(h1, .inl (cI, 64, .inl (zA g2)))] ∧ va_S A s.heap H locs ∧ lv_has ls 3 [(0, .ref h0), (1, .ref h1), (2, .int (zI i))]) (0, g) ⟨(by omega), (fun k h1 h2 => absurd h2 (by omega)), (fun k _ => rfl), hP, hD, hS, hl⟩ ?_
  intro ⟨i, g2⟩ H locs ls hI ih_2
  obtain ⟨hi, hf, hkp, hP, hD, hS, hl⟩ := hI
  have hR := hR0.at hS
  refine lv_iload_n hx hb dX2_divideBySize_2 rfl (lv_at hl 2 rfl) ?_
  refine lv_aload_n hx hb dX2_divideBySize_3 rfl (lv_at hl 0 rfl) ?_
  refine va_get (D := D) (ci := 1) (C := RX2) (T := TX2) (N := 6) hx hb hts hi2 hown hK hR 0 rfl rfl 1 (by decide) (hts (.fieldLink RX2 19 "ButterflyYard$Plan" "size" "I") (by decide +kernel)) (fun _ h9 => h9) rfl dX2_divideBySize_4 ?_
  refine z_icmp_ge (tgt := 33) hx hb dX2_divideBySize_7 (by decide) (by omega) (fun c_7 => ?_) (fun c_7 => ?_)
  · exact z_vret hx hb hr hlocks g2 rfl (fun k h1 h2 => hf k h1 (by omega)) hP hD hS dX2_divideBySize_33
  · refine lv_aload_n hx hb dX2_divideBySize_10 rfl (lv_at hl 1 rfl) ?_
    refine lv_iload_n hx hb dX2_divideBySize_11 rfl (lv_at hl 2 rfl) ?_
    refine lv_aload_n hx hb dX2_divideBySize_12 rfl (lv_at hl 0 rfl) ?_
    refine lv_aload_n hx hb dX2_divideBySize_13 rfl (lv_at hl 1 rfl) ?_
    refine lv_iload_n hx hb dX2_divideBySize_14 rfl (lv_at hl 2 rfl) ?_
    refine z_iald (cA := cI) (n := 64) (g := g2) hx hb hK hP 0 0 rfl rfl rfl (by omega) dX2_divideBySize_15 ?_
    have hgi := hkp i (by omega)
    have hgr := hg i (by omega) (by omega)
    have hmm := z_mulb (a := g i) (b := iv) (A := 10000) (B := 10000) (by omega) (by omega) (by omega) (by omega)
    rw [← hgi] at hmm hgr
    refine z_i2l hx hb dX2_divideBySize_16 (by omega) ?_
    refine lv_aload_n hx hb dX2_divideBySize_17 rfl (lv_at hl 0 rfl) ?_
    refine va_get (D := D) (ci := 1) (C := RX2) (T := TX2) (N := 6) hx hb hts hi2 hown hK hR 0 rfl rfl 2 (by decide) (hts (.fieldLink RX2 36 "ButterflyYard$Plan" "inverseOfSize" "I") (by decide +kernel)) (fun _ h9 => h9) rfl dX2_divideBySize_18 ?_
    refine z_i2l hx hb dX2_divideBySize_21 (by omega) ?_
    refine z_lmul hx hb dX2_divideBySize_22 ?_
    have hRc := z_subR (ws := [(h1, .inl (cI, 64, .inl (zA g2)))]) (rs := [(h0, .inr (1, [.int (zI p), .int (zI n), .int (zI iv), .int (zI wy), .int (zI gn), .ref hw]))]) (rc := [(h0, .inr (1, [.int (zI p), .int (zI n), .int (zI iv), .int (zI wy), .int (zI gn), .ref hw]))]) hP hR (isR := [1]) rfl
    refine z_ro (ws := [(h1, .inl (cI, 64, .inl (zA g2)))]) (va_runV (As := [.long (zL ((g2 i) * iv))]) (rest := [.int (zI i), .ref h1]) CF (c_X2_remainder l D h0 p n iv wy gn hw ((g2 i) * iv) (by omega) (by omega) H.size) (cwV 1 hts gX2_divideBySize_X2_remainder rfl rfl rfl (by decide +kernel) ⟨Nat.le_of_ble_eq_true rfl, Nat.le_of_ble_eq_true rfl⟩) (z_preV (va_recv hK hR (ci := 1) (q0 := 0) rfl rfl) z_nilP (z_nilD (A := A)) hRc z_noX (hK.sub (tys' := []) [] rfl)) rfl rfl hl.1 rfl (lv_room (Nat.le_of_ble_eq_true rfl)) dX2_divideBySize_23 ⟨Nat.le_of_ble_eq_true rfl, Nat.le_of_ble_eq_true rfl⟩) hP hS hA (cells' := 0) (slots' := 0) rfl rfl (fun H locs hP hS => ?_)
    have hR := hR0.at hS
    refine z_iast (cA := cI) (n := 64) (g := g2) (i := i) (v := ((g2 i) * iv) % p) hx hb hK hP hD hS 0 0 rfl rfl rfl (by omega) dX2_divideBySize_26 (fun H locs hP hD hS => ?_)
    have hP : va_P D vwCl [(h1, .inl (cI, 64, .inl (zA (zU g2 i (((g2 i) * iv) % p)))))] H := hP
    have hD : va_D A [(h1, .inl (cI, 64, .inl (zA (zU g2 i (((g2 i) * iv) % p)))))] := hD
    have hR := hR0.at hS
    refine lv_iinc (v := zI (i + 1)) (lv' := [(2, .int (zI (i + 1))), (0, .ref h0), (1, .ref h1)]) hx hb dX2_divideBySize_27 hl (k := 2) rfl (zI_add _ _) (by decide) rfl (fun ls hl => ?_)
    have hl := lv_sub hl [1, 2, 0] rfl
    have hl : lv_has ls 3 [(0, .ref h0), (1, .ref h1), (2, .int (zI (i + 1)))] := hl
    refine lv_goto (tgt := 2) hx hb dX2_divideBySize_30 (by decide) ?_
    exact ih_2 (i + 1, zU g2 i (((g2 i) * iv) % p)) _ _ _ ⟨(by omega), (by exact zU_fill hf (by rw [hkp i (by omega)])), (by exact zU_keep hkp), hP, hD, hS, hl⟩ (by show (n - (i + 1)).toNat < (n - i).toNat; omega)

set_option maxHeartbeats 4000000 in
set_option maxRecDepth 100000 in
theorem c_X2_waysetOf (l : Launch) (D : va_G) (n : Int) (hn : 1 ≤ n ∧ n ≤ 10000) : zF l yX2_waysetOf wsX2_waysetOf ({ frames := 3, cells := 0, slots := 0, locals := 57 } : Room) D [] [] [.int (zI n)] (some (.int (zI (wset n)))) := by
  refine z_start (cc := cX2_waysetOf) (maxL := 2) (ret := (some .int)) (own := RX2) (by decide) rfl rfl (Nat.le_of_ble_eq_true rfl) [(0, .int (zI n))] rfl ?_
  intro pp ee s mm below meth cc A H ls hx hb hr hml hts hown hlocks hin hK hA hP hD hS hR0 hR hl
  have CF : CallFix pp mm cc cX2_waysetOf 2 s ([.int (zI n)] : List Value).toArray wsX2_waysetOf RX2 := ⟨hx, hb, hml, hown, hts⟩
  refine z_bipush hx hb dX2_waysetOf_0 (by decide) ?_
  refine lv_istore_n (lv' := [(1, .int (zI 19)), (0, .int (zI n))]) hx hb dX2_waysetOf_2 rfl hl (by decide) rfl (fun ls hl => ?_)
  have hl := lv_sub hl [1, 0] rfl
  have hl : lv_has ls 2 [(0, .int (zI n)), (1, .int (zI 19))] := hl
  refine lv_iload_n hx hb dX2_waysetOf_3 rfl (lv_at hl 0 rfl) ?_
  have hRc : va_P D vwCl [] H := z_nilP
  refine z_ro (ws := []) (va_runS (As := [.int (zI n)]) (rest := []) CF (c_X1_leastPrimePart l D n (by omega) H.size) (va_cwS 1 hts gX2_waysetOf_X1_leastPrimePart rfl rfl rfl (by decide +kernel) ⟨Nat.le_of_ble_eq_true rfl, Nat.le_of_ble_eq_true rfl⟩) (z_preS z_nilP (z_nilD (A := A)) hRc z_noX (hK.sub (tys' := []) [] rfl)) rfl rfl hl.1 rfl (lv_room (Nat.le_of_ble_eq_true rfl)) dX2_waysetOf_4 ⟨Nat.le_of_ble_eq_true rfl, Nat.le_of_ble_eq_true rfl⟩) z_nilP hS hA (cells' := 0) (slots' := 0) rfl rfl (fun H locs hP hS => ?_)
  have hlp := lpp_rng (n := n) (by omega)
  refine lv_iload_n hx hb dX2_waysetOf_7 rfl (lv_at hl 0 rfl) ?_
  refine z_icmp_ge (tgt := 15) hx hb dX2_waysetOf_8 (by decide) (by omega) (fun c_8 => ?_) (fun c_8 => ?_)
  · refine lv_iload_n hx hb dX2_waysetOf_15 rfl (lv_at hl 0 rfl) ?_
    refine z_iconst hx hb dX2_waysetOf_16 ?_
    refine z_icmp_le (tgt := 32) hx hb dX2_waysetOf_17 (by decide) (by omega) (fun c_17 => ?_) (fun c_17 => ?_)
    · refine lv_iload_n hx hb dX2_waysetOf_32 rfl (lv_at hl 1 rfl) ?_
      have hres : wset n = 19 := by unfold wset; first | (rw [if_pos c_8, if_pos ⟨c_17, c_24⟩]; rfl) | (rw [if_pos c_8, if_neg (fun q => absurd q.1 (by omega))]; rfl) | (rw [if_pos c_8, if_neg (fun q => c_24 q.2)]; rfl) | (rw [if_neg (by omega), if_pos ⟨c_17, c_24⟩]; rfl) | (rw [if_neg (by omega), if_neg (fun q => absurd q.1 (by omega))]; rfl) | (rw [if_neg (by omega), if_neg (fun q => c_24 q.2)]; rfl)
      exact z_iret hx hb hr hlocks rfl () (congrArg (fun z => some (Value.int (zI z))) hres) (trivial) z_nilP z_nilD hS dX2_waysetOf_33
    · refine lv_iload_n hx hb dX2_waysetOf_20 rfl (lv_at hl 0 rfl) ?_
      have hRc : va_P D vwCl [] H := z_nilP
      refine z_ro (ws := []) (va_runS (As := [.int (zI n)]) (rest := []) CF (c_X1_isPrime l D n (by omega) H.size) (va_cwS 1 hts gX2_waysetOf_X1_isPrime rfl rfl rfl (by decide +kernel) ⟨Nat.le_of_ble_eq_true rfl, Nat.le_of_ble_eq_true rfl⟩) (z_preS z_nilP (z_nilD (A := A)) hRc z_noX (hK.sub (tys' := []) [] rfl)) rfl rfl hl.1 rfl (lv_room (Nat.le_of_ble_eq_true rfl)) dX2_waysetOf_21 ⟨Nat.le_of_ble_eq_true rfl, Nat.le_of_ble_eq_true rfl⟩) z_nilP hS hA (cells' := 0) (slots' := 0) rfl rfl (fun H locs hP hS => ?_)
      refine z_ifB_eq (tgt := 32) hx hb dX2_waysetOf_24 (by decide) (fun c_24 => ?_) (fun c_24 => ?_)
      · refine lv_iload_n hx hb dX2_waysetOf_32 rfl (lv_at hl 1 rfl) ?_
        have hres : wset n = 19 := by unfold wset; first | (rw [if_pos c_8, if_pos ⟨c_17, c_24⟩]; rfl) | (rw [if_pos c_8, if_neg (fun q => absurd q.1 (by omega))]; rfl) | (rw [if_pos c_8, if_neg (fun q => c_24 q.2)]; rfl) | (rw [if_neg (by omega), if_pos ⟨c_17, c_24⟩]; rfl) | (rw [if_neg (by omega), if_neg (fun q => absurd q.1 (by omega))]; rfl) | (rw [if_neg (by omega), if_neg (fun q => c_24 q.2)]; rfl)
        exact z_iret hx hb hr hlocks rfl () (congrArg (fun z => some (Value.int (zI z))) hres) (trivial) z_nilP z_nilD hS dX2_waysetOf_33
      · refine lv_iload_n hx hb dX2_waysetOf_27 rfl (lv_at hl 1 rfl) ?_
        refine z_bipush hx hb dX2_waysetOf_28 (by decide) ?_
        refine z_ior (r := 27) hx hb dX2_waysetOf_30 (by decide) ?_
        refine lv_istore_n (lv' := [(1, .int (zI 27)), (0, .int (zI n))]) hx hb dX2_waysetOf_31 rfl hl (by decide) rfl (fun ls hl => ?_)
        have hl := lv_sub hl [1, 0] rfl
        have hl : lv_has ls 2 [(0, .int (zI n)), (1, .int (zI 27))] := hl
        refine lv_iload_n hx hb dX2_waysetOf_32 rfl (lv_at hl 1 rfl) ?_
        have hres : wset n = 27 := by unfold wset; first | (rw [if_pos c_8, if_pos ⟨c_17, c_24⟩]; rfl) | (rw [if_pos c_8, if_neg (fun q => absurd q.1 (by omega))]; rfl) | (rw [if_pos c_8, if_neg (fun q => c_24 q.2)]; rfl) | (rw [if_neg (by omega), if_pos ⟨c_17, c_24⟩]; rfl) | (rw [if_neg (by omega), if_neg (fun q => absurd q.1 (by omega))]; rfl) | (rw [if_neg (by omega), if_neg (fun q => c_24 q.2)]; rfl)
        exact z_iret hx hb hr hlocks rfl () (congrArg (fun z => some (Value.int (zI z))) hres) (trivial) z_nilP z_nilD hS dX2_waysetOf_33
  · refine lv_iload_n hx hb dX2_waysetOf_11 rfl (lv_at hl 1 rfl) ?_
    refine z_iconst hx hb dX2_waysetOf_12 ?_
    refine z_ior (r := 23) hx hb dX2_waysetOf_13 (by decide) ?_
    refine lv_istore_n (lv' := [(1, .int (zI 23)), (0, .int (zI n))]) hx hb dX2_waysetOf_14 rfl hl (by decide) rfl (fun ls hl => ?_)
    have hl := lv_sub hl [1, 0] rfl
    have hl : lv_has ls 2 [(0, .int (zI n)), (1, .int (zI 23))] := hl
    refine lv_iload_n hx hb dX2_waysetOf_15 rfl (lv_at hl 0 rfl) ?_
    refine z_iconst hx hb dX2_waysetOf_16 ?_
    refine z_icmp_le (tgt := 32) hx hb dX2_waysetOf_17 (by decide) (by omega) (fun c_17 => ?_) (fun c_17 => ?_)
    · refine lv_iload_n hx hb dX2_waysetOf_32 rfl (lv_at hl 1 rfl) ?_
      have hres : wset n = 23 := by unfold wset; first | (rw [if_pos c_8, if_pos ⟨c_17, c_24⟩]; rfl) | (rw [if_pos c_8, if_neg (fun q => absurd q.1 (by omega))]; rfl) | (rw [if_pos c_8, if_neg (fun q => c_24 q.2)]; rfl) | (rw [if_neg (by omega), if_pos ⟨c_17, c_24⟩]; rfl) | (rw [if_neg (by omega), if_neg (fun q => absurd q.1 (by omega))]; rfl) | (rw [if_neg (by omega), if_neg (fun q => c_24 q.2)]; rfl)
      exact z_iret hx hb hr hlocks rfl () (congrArg (fun z => some (Value.int (zI z))) hres) (trivial) z_nilP z_nilD hS dX2_waysetOf_33
    · refine lv_iload_n hx hb dX2_waysetOf_20 rfl (lv_at hl 0 rfl) ?_
      have hRc : va_P D vwCl [] H := z_nilP
      refine z_ro (ws := []) (va_runS (As := [.int (zI n)]) (rest := []) CF (c_X1_isPrime l D n (by omega) H.size) (va_cwS 1 hts gX2_waysetOf_X1_isPrime rfl rfl rfl (by decide +kernel) ⟨Nat.le_of_ble_eq_true rfl, Nat.le_of_ble_eq_true rfl⟩) (z_preS z_nilP (z_nilD (A := A)) hRc z_noX (hK.sub (tys' := []) [] rfl)) rfl rfl hl.1 rfl (lv_room (Nat.le_of_ble_eq_true rfl)) dX2_waysetOf_21 ⟨Nat.le_of_ble_eq_true rfl, Nat.le_of_ble_eq_true rfl⟩) z_nilP hS hA (cells' := 0) (slots' := 0) rfl rfl (fun H locs hP hS => ?_)
      refine z_ifB_eq (tgt := 32) hx hb dX2_waysetOf_24 (by decide) (fun c_24 => ?_) (fun c_24 => ?_)
      · refine lv_iload_n hx hb dX2_waysetOf_32 rfl (lv_at hl 1 rfl) ?_
        have hres : wset n = 23 := by unfold wset; first | (rw [if_pos c_8, if_pos ⟨c_17, c_24⟩]; rfl) | (rw [if_pos c_8, if_neg (fun q => absurd q.1 (by omega))]; rfl) | (rw [if_pos c_8, if_neg (fun q => c_24 q.2)]; rfl) | (rw [if_neg (by omega), if_pos ⟨c_17, c_24⟩]; rfl) | (rw [if_neg (by omega), if_neg (fun q => absurd q.1 (by omega))]; rfl) | (rw [if_neg (by omega), if_neg (fun q => c_24 q.2)]; rfl)
        exact z_iret hx hb hr hlocks rfl () (congrArg (fun z => some (Value.int (zI z))) hres) (trivial) z_nilP z_nilD hS dX2_waysetOf_33
      · refine lv_iload_n hx hb dX2_waysetOf_27 rfl (lv_at hl 1 rfl) ?_
        refine z_bipush hx hb dX2_waysetOf_28 (by decide) ?_
        refine z_ior (r := 31) hx hb dX2_waysetOf_30 (by decide) ?_
        refine lv_istore_n (lv' := [(1, .int (zI 31)), (0, .int (zI n))]) hx hb dX2_waysetOf_31 rfl hl (by decide) rfl (fun ls hl => ?_)
        have hl := lv_sub hl [1, 0] rfl
        have hl : lv_has ls 2 [(0, .int (zI n)), (1, .int (zI 31))] := hl
        refine lv_iload_n hx hb dX2_waysetOf_32 rfl (lv_at hl 1 rfl) ?_
        have hres : wset n = 31 := by unfold wset; first | (rw [if_pos c_8, if_pos ⟨c_17, c_24⟩]; rfl) | (rw [if_pos c_8, if_neg (fun q => absurd q.1 (by omega))]; rfl) | (rw [if_pos c_8, if_neg (fun q => c_24 q.2)]; rfl) | (rw [if_neg (by omega), if_pos ⟨c_17, c_24⟩]; rfl) | (rw [if_neg (by omega), if_neg (fun q => absurd q.1 (by omega))]; rfl) | (rw [if_neg (by omega), if_neg (fun q => c_24 q.2)]; rfl)
        exact z_iret hx hb hr hlocks rfl () (congrArg (fun z => some (Value.int (zI z))) hres) (trivial) z_nilP z_nilD hS dX2_waysetOf_33

