set_option maxHeartbeats 4000000 in
set_option maxRecDepth 100000 in
theorem c_X6_thrown (l : Launch) (D : va_G) (h0 : Nat) (ae : Nat) (al : Nat) (ap : Nat) (az : Nat) (ar : Nat) (am : Nat) (np : Int) (th : Int) : zF l yX6_thrown wsX6_thrown ({ frames := 0, cells := 0, slots := 0, locals := 0 } : Room) D [] [(h0, .inr (5, [.ref ae, .ref al, .ref ap, .ref az, .ref ar, .int (zI np), .ref am, .int (zI th)]))] [.ref h0] (some (.int (zI th))) := by
  refine z_start (cc := cX6_thrown) (maxL := 1) (ret := (some .int)) (own := RX6) (by decide) rfl rfl (Nat.le_of_ble_eq_true rfl) [(0, .ref h0)] rfl ?_
  intro pp ee s mm below meth cc A H ls hx hb hr hml hts hown hlocks hin hK hA hP hD hS hR0 hR hl
  have CF : CallFix pp mm cc cX6_thrown 1 s ([.ref h0] : List Value).toArray wsX6_thrown RX6 := ⟨hx, hb, hml, hown, hts⟩
  have hi6 : ∀ w ∈ wsX60, w ∈ wsX6_thrown := by decide +kernel
  refine lv_aload_n hx hb dX6_thrown_0 rfl (lv_at hl 0 rfl) ?_
  refine va_get (D := D) (ci := 5) (C := RX6) (T := TX6) (N := 8) hx hb hts hi6 hown hK hR 0 rfl rfl 7 (by decide) (hts (.fieldLink RX6 28 "ButterflyYardModel" "thrown" "I") (by decide +kernel)) (fun _ h9 => h9) rfl dX6_thrown_1 ?_
  exact z_iret hx hb hr hlocks rfl () (rfl) (trivial) z_nilP z_nilD hS dX6_thrown_4

set_option maxHeartbeats 4000000 in
set_option maxRecDepth 100000 in
theorem c_X6_isRow (l : Launch) (D : va_G) (r : Int) (hr_ : -2147483648 ≤ r ∧ r ≤ 2147483647) : zF l yX6_isRow wsX6_isRow ({ frames := 0, cells := 0, slots := 0, locals := 0 } : Room) D [] [] [.int (zI r)] (some (.int (zI (zB (0 ≤ r ∧ r < 4))))) := by
  refine z_start (cc := cX6_isRow) (maxL := 1) (ret := (some .boolean)) (own := RX6) (by decide) rfl rfl (Nat.le_of_ble_eq_true rfl) [(0, .int (zI r))] rfl ?_
  intro pp ee s mm below meth cc A H ls hx hb hr hml hts hown hlocks hin hK hA hP hD hS hR0 hR hl
  have CF : CallFix pp mm cc cX6_isRow 1 s ([.int (zI r)] : List Value).toArray wsX6_isRow RX6 := ⟨hx, hb, hml, hown, hts⟩
  refine lv_iload_n hx hb dX6_isRow_0 rfl (lv_at hl 0 rfl) ?_
  refine z_if_lt (tgt := 13) hx hb dX6_isRow_1 (by decide) (by omega) (fun c_1 => ?_) (fun c_1 => ?_)
  · refine z_iconst hx hb dX6_isRow_13 ?_
    have hres : zB (0 ≤ r ∧ r < 4) = 0 := by rw [zB_f (by omega)]
    exact z_iret hx hb hr hlocks (rfl) () (congrArg (fun z => some (Value.int (zI z))) hres) (trivial) z_nilP z_nilD hS dX6_isRow_14
  · refine lv_iload_n hx hb dX6_isRow_4 rfl (lv_at hl 0 rfl) ?_
    refine z_iconst hx hb dX6_isRow_5 ?_
    refine z_icmp_ge (tgt := 13) hx hb dX6_isRow_6 (by decide) (by omega) (fun c_6 => ?_) (fun c_6 => ?_)
    · refine z_iconst hx hb dX6_isRow_13 ?_
      have hres : zB (0 ≤ r ∧ r < 4) = 0 := by rw [zB_f (by omega)]
      exact z_iret hx hb hr hlocks (rfl) () (congrArg (fun z => some (Value.int (zI z))) hres) (trivial) z_nilP z_nilD hS dX6_isRow_14
    · refine z_iconst hx hb dX6_isRow_9 ?_
      refine lv_goto (tgt := 14) hx hb dX6_isRow_10 (by decide) ?_
      have hres : zB (0 ≤ r ∧ r < 4) = 1 := by rw [zB_t (by omega)]
      exact z_iret hx hb hr hlocks (rfl) () (congrArg (fun z => some (Value.int (zI z))) hres) (trivial) z_nilP z_nilD hS dX6_isRow_14

set_option maxHeartbeats 4000000 in
set_option maxRecDepth 100000 in
theorem c_X6_isPlan (l : Launch) (D : va_G) (h0 : Nat) (ae : Nat) (al : Nat) (ap : Nat) (az : Nat) (ar : Nat) (am : Nat) (np : Int) (th : Int) (x : Int) (hx_ : -2147483648 ≤ x ∧ x ≤ 2147483647) (hnp_ : 0 ≤ np ∧ np ≤ 8) : zF l yX6_isPlan wsX6_isPlan ({ frames := 0, cells := 0, slots := 0, locals := 0 } : Room) D [] [(h0, .inr (5, [.ref ae, .ref al, .ref ap, .ref az, .ref ar, .int (zI np), .ref am, .int (zI th)]))] [.ref h0, .int (zI x)] (some (.int (zI (zB (0 ≤ x ∧ x < np))))) := by
  refine z_start (cc := cX6_isPlan) (maxL := 2) (ret := (some .boolean)) (own := RX6) (by decide) rfl rfl (Nat.le_of_ble_eq_true rfl) [(0, .ref h0), (1, .int (zI x))] rfl ?_
  intro pp ee s mm below meth cc A H ls hx hb hr hml hts hown hlocks hin hK hA hP hD hS hR0 hR hl
  have CF : CallFix pp mm cc cX6_isPlan 2 s ([.ref h0, .int (zI x)] : List Value).toArray wsX6_isPlan RX6 := ⟨hx, hb, hml, hown, hts⟩
  have hi6 : ∀ w ∈ wsX60, w ∈ wsX6_isPlan := by decide +kernel
  refine lv_iload_n hx hb dX6_isPlan_0 rfl (lv_at hl 1 rfl) ?_
  refine z_if_lt (tgt := 16) hx hb dX6_isPlan_1 (by decide) (by omega) (fun c_1 => ?_) (fun c_1 => ?_)
  · refine z_iconst hx hb dX6_isPlan_16 ?_
    have hres : zB (0 ≤ x ∧ x < np) = 0 := by rw [zB_f (by omega)]
    exact z_iret hx hb hr hlocks (rfl) () (congrArg (fun z => some (Value.int (zI z))) hres) (trivial) z_nilP z_nilD hS dX6_isPlan_17
  · refine lv_iload_n hx hb dX6_isPlan_4 rfl (lv_at hl 1 rfl) ?_
    refine lv_aload_n hx hb dX6_isPlan_5 rfl (lv_at hl 0 rfl) ?_
    refine va_get (D := D) (ci := 5) (C := RX6) (T := TX6) (N := 8) hx hb hts hi6 hown hK hR 0 rfl rfl 5 (by decide) (hts (.fieldLink RX6 32 "ButterflyYardModel" "plans" "I") (by decide +kernel)) (fun _ h9 => h9) rfl dX6_isPlan_6 ?_
    refine z_icmp_ge (tgt := 16) hx hb dX6_isPlan_9 (by decide) (by omega) (fun c_9 => ?_) (fun c_9 => ?_)
    · refine z_iconst hx hb dX6_isPlan_16 ?_
      have hres : zB (0 ≤ x ∧ x < np) = 0 := by rw [zB_f (by omega)]
      exact z_iret hx hb hr hlocks (rfl) () (congrArg (fun z => some (Value.int (zI z))) hres) (trivial) z_nilP z_nilD hS dX6_isPlan_17
    · refine z_iconst hx hb dX6_isPlan_12 ?_
      refine lv_goto (tgt := 17) hx hb dX6_isPlan_13 (by decide) ?_
      have hres : zB (0 ≤ x ∧ x < np) = 1 := by rw [zB_t (by omega)]
      exact z_iret hx hb hr hlocks (rfl) () (congrArg (fun z => some (Value.int (zI z))) hres) (trivial) z_nilP z_nilD hS dX6_isPlan_17

set_option maxHeartbeats 4000000 in
set_option maxRecDepth 100000 in
theorem c_X6_power (l : Launch) (D : va_G) (b : Int) (x : Int) (n : Int) (hb_ : 0 ≤ b ∧ b ≤ 10000) (hx_ : 0 ≤ x ∧ x ≤ 10000) (hn : 2 ≤ n ∧ n ≤ 10000) : zF l yX6_power wsX6_power ({ frames := 0, cells := 0, slots := 0, locals := 0 } : Room) D [] [] [.int (zI b), .int (zI x), .int (zI n)] (some (.int (zI (pwm b x n)))) := by
  refine z_start (cc := cX6_power) (maxL := 5) (ret := (some .int)) (own := RX6) (by decide) rfl rfl (Nat.le_of_ble_eq_true rfl) [(0, .int (zI b)), (1, .int (zI x)), (2, .int (zI n))] rfl ?_
  intro pp ee s mm below meth cc A H ls hx hb hr hml hts hown hlocks hin hK hA hP hD hS hR0 hR hl
  have CF : CallFix pp mm cc cX6_power 5 s ([.int (zI b), .int (zI x), .int (zI n)] : List Value).toArray wsX6_power RX6 := ⟨hx, hb, hml, hown, hts⟩
  refine z_iconst hx hb dX6_power_0 ?_
  refine lv_istore_n (lv' := [(3, .int (zI 1)), (0, .int (zI b)), (1, .int (zI x)), (2, .int (zI n))]) hx hb dX6_power_1 rfl hl (by decide) rfl (fun ls hl => ?_)
  have hl := lv_sub hl [1, 2, 3, 0] rfl
  have hl : lv_has ls 5 [(0, .int (zI b)), (1, .int (zI x)), (2, .int (zI n)), (3, .int (zI 1))] := hl
  refine z_iconst hx hb dX6_power_2 ?_
  refine lv_istore (lv' := [(4, .int (zI 0)), (0, .int (zI b)), (1, .int (zI x)), (2, .int (zI n)), (3, .int (zI 1))]) hx hb dX6_power_3 hl (by decide) rfl (fun ls hl => ?_)
  have hl := lv_sub hl [1, 2, 3, 4, 0] rfl
  have hl : lv_has ls 5 [(0, .int (zI b)), (1, .int (zI x)), (2, .int (zI n)), (3, .int (zI 1)), (4, .int (zI 0))] := hl
  refine z_loop (σ := Int × Int) (fun (r, i) => (x - i).toNat) (fun (r, i) H locs ls => (0 ≤ i ∧ i ≤ x) ∧ r = pwm b i n ∧ (0 ≤ r ∧ r < n) ∧ va_S A s.heap H locs ∧ lv_has ls 5 [(0, .int (zI b)), (1, .int (zI x)), (2, .int (zI n)), (3, .int (zI r)), (4, .int (zI i))]) (1, 0) ⟨(by omega), (by exact (pwm_1 (by omega)).symm), (by omega), hS, hl⟩ ?_
  intro ⟨r, i⟩ H locs ls hI ih_5
  obtain ⟨hi_, hr_, hrr, hS, hl⟩ := hI
  refine lv_iload hx hb dX6_power_5 (lv_at hl 4 rfl) ?_
  refine lv_iload_n hx hb dX6_power_7 rfl (lv_at hl 1 rfl) ?_
  refine z_icmp_ge (tgt := 23) hx hb dX6_power_8 (by decide) (by omega) (fun c_8 => ?_) (fun c_8 => ?_)
  · refine lv_iload_n hx hb dX6_power_23 rfl (lv_at hl 3 rfl) ?_
    have hres : pwm b x n = r := by rw [hr_, show i = x by omega]
    exact z_iret hx hb hr hlocks rfl () (congrArg (fun z => some (Value.int (zI z))) hres) (trivial) z_nilP z_nilD hS dX6_power_24
  · refine lv_iload_n hx hb dX6_power_11 rfl (lv_at hl 3 rfl) ?_
    refine lv_iload_n hx hb dX6_power_12 rfl (lv_at hl 0 rfl) ?_
    refine z_imul hx hb dX6_power_13 ?_
    have hb1 := z_mulb (a := r) (b := b) (A := 10000) (B := 10000) (by omega) (by omega) (by omega) (by omega)
    refine lv_iload_n hx hb dX6_power_14 rfl (lv_at hl 2 rfl) ?_
    refine z_irem hx hb dX6_power_15 (by omega) (by omega) ?_
    have hm_15 := z_rem (a := r * b) (n := n) (by omega)
    refine lv_istore_n (lv' := [(3, .int (zI ((r * b) % n))), (0, .int (zI b)), (1, .int (zI x)), (2, .int (zI n)), (4, .int (zI i))]) hx hb dX6_power_16 rfl hl (by decide) rfl (fun ls hl => ?_)
    have hl := lv_sub hl [1, 2, 3, 0, 4] rfl
    have hl : lv_has ls 5 [(0, .int (zI b)), (1, .int (zI x)), (2, .int (zI n)), (3, .int (zI ((r * b) % n))), (4, .int (zI i))] := hl
    refine lv_iinc (v := zI (i + 1)) (lv' := [(4, .int (zI (i + 1))), (0, .int (zI b)), (1, .int (zI x)), (2, .int (zI n)), (3, .int (zI ((r * b) % n)))]) hx hb dX6_power_17 hl (k := 4) rfl (zI_add _ _) (by decide) rfl (fun ls hl => ?_)
    have hl := lv_sub hl [1, 2, 3, 4, 0] rfl
    have hl : lv_has ls 5 [(0, .int (zI b)), (1, .int (zI x)), (2, .int (zI n)), (3, .int (zI ((r * b) % n))), (4, .int (zI (i + 1)))] := hl
    refine lv_goto (tgt := 5) hx hb dX6_power_20 (by decide) ?_
    exact ih_5 ((r * b) % n, i + 1) _ _ _ ⟨(by omega), (by rw [hr_, pwm_s hi_.1]), (by exact z_rem (by omega)), hS, hl⟩ (by show (x - (i + 1)).toNat < (x - i).toNat; omega)

set_option maxHeartbeats 4000000 in
set_option maxRecDepth 100000 in
theorem c_X6_inverse (l : Launch) (D : va_G) (b : Int) (n : Int) (hb_ : 0 ≤ b ∧ b ≤ 10000) (hn : 2 ≤ n ∧ n ≤ 10000) : zF l yX6_inverse wsX6_inverse ({ frames := 1, cells := 0, slots := 0, locals := 24 } : Room) D [] [] [.int (zI b), .int (zI n)] (some (.int (zI (pwm b (n - 2) n)))) := by
  refine z_start (cc := cX6_inverse) (maxL := 2) (ret := (some .int)) (own := RX6) (by decide) rfl rfl (Nat.le_of_ble_eq_true rfl) [(0, .int (zI b)), (1, .int (zI n))] rfl ?_
  intro pp ee s mm below meth cc A H ls hx hb hr hml hts hown hlocks hin hK hA hP hD hS hR0 hR hl
  have CF : CallFix pp mm cc cX6_inverse 2 s ([.int (zI b), .int (zI n)] : List Value).toArray wsX6_inverse RX6 := ⟨hx, hb, hml, hown, hts⟩
  refine lv_iload_n hx hb dX6_inverse_0 rfl (lv_at hl 0 rfl) ?_
  refine lv_iload_n hx hb dX6_inverse_1 rfl (lv_at hl 1 rfl) ?_
  refine z_iconst hx hb dX6_inverse_2 ?_
  refine z_isub hx hb dX6_inverse_3 ?_
  refine lv_iload_n hx hb dX6_inverse_4 rfl (lv_at hl 1 rfl) ?_
  have hRc : va_P D vwCl [] H := z_nilP
  refine z_ro (ws := []) (va_runS (As := [.int (zI b), .int (zI (n - 2)), .int (zI n)]) (rest := []) CF (c_X6_power l D b (n - 2) n (by omega) (by omega) (by omega) H.size) (va_cwS 3 hts gX6_inverse_X6_power rfl rfl rfl (by decide +kernel) ⟨Nat.le_of_ble_eq_true rfl, Nat.le_of_ble_eq_true rfl⟩) (z_preS z_nilP (z_nilD (A := A)) hRc z_noX (hK.sub (tys' := []) [] rfl)) rfl rfl hl.1 rfl (lv_room (Nat.le_of_ble_eq_true rfl)) dX6_inverse_5 ⟨Nat.le_of_ble_eq_true rfl, Nat.le_of_ble_eq_true rfl⟩) z_nilP hS hA (cells' := 0) (slots' := 0) rfl rfl (fun H locs hP hS => ?_)
  exact z_iret hx hb hr hlocks rfl () (rfl) (trivial) z_nilP z_nilD hS dX6_inverse_8

set_option maxHeartbeats 4000000 in
set_option maxRecDepth 100000 in
theorem c_X6_rest (l : Launch) (D : va_G) (x : Int) (n : Int) (hx_ : -2147483648 ≤ x ∧ x ≤ 2147483647) (hn : 1 ≤ n ∧ n ≤ 10000) : zF l yX6_rest wsX6_rest ({ frames := 0, cells := 0, slots := 0, locals := 0 } : Room) D [] [] [.int (zI x), .int (zI n)] (some (.int (zI (x % n)))) := by
  refine z_start (cc := cX6_rest) (maxL := 3) (ret := (some .int)) (own := RX6) (by decide) rfl rfl (Nat.le_of_ble_eq_true rfl) [(0, .int (zI x)), (1, .int (zI n))] rfl ?_
  intro pp ee s mm below meth cc A H ls hx hb hr hml hts hown hlocks hin hK hA hP hD hS hR0 hR hl
  have CF : CallFix pp mm cc cX6_rest 3 s ([.int (zI x), .int (zI n)] : List Value).toArray wsX6_rest RX6 := ⟨hx, hb, hml, hown, hts⟩
  refine lv_iload_n hx hb dX6_rest_0 rfl (lv_at hl 0 rfl) ?_
  refine lv_iload_n hx hb dX6_rest_1 rfl (lv_at hl 1 rfl) ?_
  refine z_iremt hx hb dX6_rest_2 (by omega) (by omega) ?_
  refine z_nameI (fun r e_r => ?_)
  refine lv_istore_n (lv' := [(2, .int (zI r)), (0, .int (zI x)), (1, .int (zI n))]) hx hb dX6_rest_3 rfl hl (by decide) rfl (fun ls hl => ?_)
  have hl := lv_sub hl [1, 2, 0] rfl
  have hl : lv_has ls 3 [(0, .int (zI x)), (1, .int (zI n)), (2, .int (zI r))] := hl
  have hr0 := z_tmod x hn.1
  rw [← e_r] at hr0
  refine lv_iload_n hx hb dX6_rest_4 rfl (lv_at hl 2 rfl) ?_
  refine z_if_ge (tgt := 14) hx hb dX6_rest_5 (by decide) (by omega) (fun c_5 => ?_) (fun c_5 => ?_)
  · refine lv_iload_n hx hb dX6_rest_14 rfl (lv_at hl 2 rfl) ?_
    have hres : x % n = r := by first | rfl | omega
    exact z_iret hx hb hr hlocks rfl () (congrArg (fun z => some (Value.int (zI z))) hres) (trivial) z_nilP z_nilD hS dX6_rest_15
  · refine lv_iload_n hx hb dX6_rest_8 rfl (lv_at hl 2 rfl) ?_
    refine lv_iload_n hx hb dX6_rest_9 rfl (lv_at hl 1 rfl) ?_
    refine z_iadd hx hb dX6_rest_10 ?_
    refine lv_goto (tgt := 15) hx hb dX6_rest_11 (by decide) ?_
    have hres : x % n = r + n := by first | rfl | omega
    exact z_iret hx hb hr hlocks rfl () (congrArg (fun z => some (Value.int (zI z))) hres) (trivial) z_nilP z_nilD hS dX6_rest_15

set_option maxHeartbeats 4000000 in
set_option maxRecDepth 100000 in
theorem c_X6_isPrime (l : Launch) (D : va_G) (n : Int) (hn : 1 ≤ n ∧ n ≤ 10000) : zF l yX6_isPrime wsX6_isPrime ({ frames := 0, cells := 0, slots := 0, locals := 0 } : Room) D [] [] [.int (zI n)] (some (.int (zI (zB (1 < n ∧ lfac n = n))))) := by
  refine z_start (cc := cX6_isPrime) (maxL := 3) (ret := (some .boolean)) (own := RX6) (by decide) rfl rfl (Nat.le_of_ble_eq_true rfl) [(0, .int (zI n))] rfl ?_
  intro pp ee s mm below meth cc A H ls hx hb hr hml hts hown hlocks hin hK hA hP hD hS hR0 hR hl
  have CF : CallFix pp mm cc cX6_isPrime 3 s ([.int (zI n)] : List Value).toArray wsX6_isPrime RX6 := ⟨hx, hb, hml, hown, hts⟩
  refine lv_iload_n hx hb dX6_isPrime_0 rfl (lv_at hl 0 rfl) ?_
  refine z_iconst hx hb dX6_isPrime_1 ?_
  refine z_icmp_le (tgt := 9) hx hb dX6_isPrime_2 (by decide) (by omega) (fun c_2 => ?_) (fun c_2 => ?_)
  · refine z_iconst hx hb dX6_isPrime_9 ?_
    refine lv_istore_n (lv' := [(1, .int (zI 0)), (0, .int (zI n))]) hx hb dX6_isPrime_10 rfl hl (by decide) rfl (fun ls hl => ?_)
    have hl := lv_sub hl [1, 0] rfl
    have hl : lv_has ls 3 [(0, .int (zI n)), (1, .int (zI 0))] := hl
    refine z_iconst hx hb dX6_isPrime_11 ?_
    refine lv_istore_n (lv' := [(2, .int (zI 2)), (0, .int (zI n)), (1, .int (zI 0))]) hx hb dX6_isPrime_12 rfl hl (by decide) rfl (fun ls hl => ?_)
    have hl := lv_sub hl [1, 2, 0] rfl
    have hl : lv_has ls 3 [(0, .int (zI n)), (1, .int (zI 0)), (2, .int (zI 2))] := hl
    refine z_loop (σ := Int × Int) (fun (t, d) => (202 - d).toNat) (fun (t, d) H locs ls => (2 ≤ d ∧ d ≤ 101) ∧ ((t = 1 ∧ 1 < n ∧ lfac n = lfN (202 - d).toNat d n) ∨ (t = 0 ∧ ¬ (1 < n ∧ lfac n = n))) ∧ va_S A s.heap H locs ∧ lv_has ls 3 [(0, .int (zI n)), (1, .int (zI t)), (2, .int (zI d))]) (0, 2) ⟨(by decide), (by first | exact Or.inl ⟨rfl, by omega, by show lfN 200 2 n = lfN ((202 : Int) - 2).toNat 2 n; rw [show ((202 : Int) - 2).toNat = 200 from by decide]⟩ | exact Or.inr ⟨rfl, by omega⟩), hS, hl⟩ ?_
    intro ⟨t, d⟩ H locs ls hI ih_13
    obtain ⟨hd_, ht_, hS, hl⟩ := hI
    have hsq := z_mulb (a := d) (b := d) (A := 101) (B := 101) (by omega) (by omega) (by omega) (by omega)
    refine lv_iload_n hx hb dX6_isPrime_13 rfl (lv_at hl 2 rfl) ?_
    refine lv_iload_n hx hb dX6_isPrime_14 rfl (lv_at hl 2 rfl) ?_
    refine z_imul hx hb dX6_isPrime_15 ?_
    refine lv_iload_n hx hb dX6_isPrime_16 rfl (lv_at hl 0 rfl) ?_
    refine z_icmp_gt (tgt := 42) hx hb dX6_isPrime_17 (by decide) (by omega) (fun c_17 => ?_) (fun c_17 => ?_)
    · refine lv_iload_n hx hb dX6_isPrime_42 rfl (lv_at hl 1 rfl) ?_
      have hres : zB (1 < n ∧ lfac n = n) = t := by rcases ht_ with ⟨q1, q2, q3⟩ | ⟨q1, q2⟩; (rw [q1, zB_t]; refine ⟨q2, ?_⟩; rw [q3, lfN_step (k := (202 - d).toNat) (k' := (202 - (d + 1)).toNat) (by omega), if_neg (by omega)]; omega); (rw [q1, zB_f q2])
      exact z_iret hx hb hr hlocks (by rcases ht_ with ⟨q1, -, -⟩ | ⟨q1, -⟩ <;> rw [q1] <;> rfl) () (congrArg (fun z => some (Value.int (zI z))) hres) (trivial) z_nilP z_nilD hS dX6_isPrime_43
    · refine lv_iload_n hx hb dX6_isPrime_20 rfl (lv_at hl 1 rfl) ?_
      refine z_if_eq (tgt := 42) hx hb dX6_isPrime_21 (by decide) (by omega) (fun c_21 => ?_) (fun c_21 => ?_)
      · refine lv_iload_n hx hb dX6_isPrime_42 rfl (lv_at hl 1 rfl) ?_
        have hres : zB (1 < n ∧ lfac n = n) = t := by rcases ht_ with ⟨q1, q2, q3⟩ | ⟨q1, q2⟩; (rw [q1, zB_t]; refine ⟨q2, ?_⟩; rw [q3, lfN_step (k := (202 - d).toNat) (k' := (202 - (d + 1)).toNat) (by omega), if_neg (by omega)]; omega); (rw [q1, zB_f q2])
        exact z_iret hx hb hr hlocks (by rcases ht_ with ⟨q1, -, -⟩ | ⟨q1, -⟩ <;> rw [q1] <;> rfl) () (congrArg (fun z => some (Value.int (zI z))) hres) (trivial) z_nilP z_nilD hS dX6_isPrime_43
      · refine lv_iload_n hx hb dX6_isPrime_24 rfl (lv_at hl 0 rfl) ?_
        refine lv_iload_n hx hb dX6_isPrime_25 rfl (lv_at hl 2 rfl) ?_
        refine z_irem hx hb dX6_isPrime_26 (by omega) (by omega) ?_
        have hm_26 := z_rem (a := n) (n := d) (by omega)
        refine z_if_eq (tgt := 34) hx hb dX6_isPrime_27 (by decide) (by omega) (fun c_27 => ?_) (fun c_27 => ?_)
        · refine z_iconst hx hb dX6_isPrime_34 ?_
          refine lv_istore_n (lv' := [(1, .int (zI 0)), (0, .int (zI n)), (2, .int (zI d))]) hx hb dX6_isPrime_35 rfl hl (by decide) rfl (fun ls hl => ?_)
          have hl := lv_sub hl [1, 0, 2] rfl
          have hl : lv_has ls 3 [(0, .int (zI n)), (1, .int (zI 0)), (2, .int (zI d))] := hl
          refine lv_iinc (v := zI (d + 1)) (lv' := [(2, .int (zI (d + 1))), (0, .int (zI n)), (1, .int (zI 0))]) hx hb dX6_isPrime_36 hl (k := 2) rfl (zI_add _ _) (by decide) rfl (fun ls hl => ?_)
          have hl := lv_sub hl [1, 2, 0] rfl
          have hl : lv_has ls 3 [(0, .int (zI n)), (1, .int (zI 0)), (2, .int (zI (d + 1)))] := hl
          refine lv_goto (tgt := 13) hx hb dX6_isPrime_39 (by decide) ?_
          exact ih_13 (0, d + 1) _ _ _ ⟨(by have := z_sq (d := d) (by omega) (by omega); omega), (by have hf := (ht_.resolve_right (fun q => c_21 q.1)); first | (exact Or.inl ⟨rfl, hf.2.1, by rw [hf.2.2, lfN_step (k := (202 - d).toNat) (k' := (202 - (d + 1)).toNat) (by omega), if_pos c_17, if_neg c_27]⟩) | (exact Or.inr ⟨rfl, fun q => by rw [hf.2.2, lfN_step (k := (202 - d).toNat) (k' := (202 - (d + 1)).toNat) (by omega), if_pos c_17, if_pos c_27] at q; have q1 := q.2; have q2 : d * 2 ≤ d * d := Int.mul_le_mul_of_nonneg_left (by omega) (by omega); omega⟩)), hS, hl⟩ (by show (202 - (d + 1)).toNat < (202 - d).toNat; omega)
        · refine z_iconst hx hb dX6_isPrime_30 ?_
          refine lv_goto (tgt := 35) hx hb dX6_isPrime_31 (by decide) ?_
          refine lv_istore_n (lv' := [(1, .int (zI 1)), (0, .int (zI n)), (2, .int (zI d))]) hx hb dX6_isPrime_35 rfl hl (by decide) rfl (fun ls hl => ?_)
          have hl := lv_sub hl [1, 0, 2] rfl
          have hl : lv_has ls 3 [(0, .int (zI n)), (1, .int (zI 1)), (2, .int (zI d))] := hl
          refine lv_iinc (v := zI (d + 1)) (lv' := [(2, .int (zI (d + 1))), (0, .int (zI n)), (1, .int (zI 1))]) hx hb dX6_isPrime_36 hl (k := 2) rfl (zI_add _ _) (by decide) rfl (fun ls hl => ?_)
          have hl := lv_sub hl [1, 2, 0] rfl
          have hl : lv_has ls 3 [(0, .int (zI n)), (1, .int (zI 1)), (2, .int (zI (d + 1)))] := hl
          refine lv_goto (tgt := 13) hx hb dX6_isPrime_39 (by decide) ?_
          exact ih_13 (1, d + 1) _ _ _ ⟨(by have := z_sq (d := d) (by omega) (by omega); omega), (by have hf := (ht_.resolve_right (fun q => c_21 q.1)); first | (exact Or.inl ⟨rfl, hf.2.1, by rw [hf.2.2, lfN_step (k := (202 - d).toNat) (k' := (202 - (d + 1)).toNat) (by omega), if_pos c_17, if_neg c_27]⟩) | (exact Or.inr ⟨rfl, fun q => by rw [hf.2.2, lfN_step (k := (202 - d).toNat) (k' := (202 - (d + 1)).toNat) (by omega), if_pos c_17, if_pos c_27] at q; have q1 := q.2; have q2 : d * 2 ≤ d * d := Int.mul_le_mul_of_nonneg_left (by omega) (by omega); omega⟩)), hS, hl⟩ (by show (202 - (d + 1)).toNat < (202 - d).toNat; omega)
  · refine z_iconst hx hb dX6_isPrime_5 ?_
    refine lv_goto (tgt := 10) hx hb dX6_isPrime_6 (by decide) ?_
    refine lv_istore_n (lv' := [(1, .int (zI 1)), (0, .int (zI n))]) hx hb dX6_isPrime_10 rfl hl (by decide) rfl (fun ls hl => ?_)
    have hl := lv_sub hl [1, 0] rfl
    have hl : lv_has ls 3 [(0, .int (zI n)), (1, .int (zI 1))] := hl
    refine z_iconst hx hb dX6_isPrime_11 ?_
    refine lv_istore_n (lv' := [(2, .int (zI 2)), (0, .int (zI n)), (1, .int (zI 1))]) hx hb dX6_isPrime_12 rfl hl (by decide) rfl (fun ls hl => ?_)
    have hl := lv_sub hl [1, 2, 0] rfl
    have hl : lv_has ls 3 [(0, .int (zI n)), (1, .int (zI 1)), (2, .int (zI 2))] := hl
    refine z_loop (σ := Int × Int) (fun (t, d) => (202 - d).toNat) (fun (t, d) H locs ls => (2 ≤ d ∧ d ≤ 101) ∧ ((t = 1 ∧ 1 < n ∧ lfac n = lfN (202 - d).toNat d n) ∨ (t = 0 ∧ ¬ (1 < n ∧ lfac n = n))) ∧ va_S A s.heap H locs ∧ lv_has ls 3 [(0, .int (zI n)), (1, .int (zI t)), (2, .int (zI d))]) (1, 2) ⟨(by decide), (by first | exact Or.inl ⟨rfl, by omega, by show lfN 200 2 n = lfN ((202 : Int) - 2).toNat 2 n; rw [show ((202 : Int) - 2).toNat = 200 from by decide]⟩ | exact Or.inr ⟨rfl, by omega⟩), hS, hl⟩ ?_
    intro ⟨t, d⟩ H locs ls hI ih_13
    obtain ⟨hd_, ht_, hS, hl⟩ := hI
    have hsq := z_mulb (a := d) (b := d) (A := 101) (B := 101) (by omega) (by omega) (by omega) (by omega)
    refine lv_iload_n hx hb dX6_isPrime_13 rfl (lv_at hl 2 rfl) ?_
    refine lv_iload_n hx hb dX6_isPrime_14 rfl (lv_at hl 2 rfl) ?_
    refine z_imul hx hb dX6_isPrime_15 ?_
    refine lv_iload_n hx hb dX6_isPrime_16 rfl (lv_at hl 0 rfl) ?_
    refine z_icmp_gt (tgt := 42) hx hb dX6_isPrime_17 (by decide) (by omega) (fun c_17 => ?_) (fun c_17 => ?_)
    · refine lv_iload_n hx hb dX6_isPrime_42 rfl (lv_at hl 1 rfl) ?_
      have hres : zB (1 < n ∧ lfac n = n) = t := by rcases ht_ with ⟨q1, q2, q3⟩ | ⟨q1, q2⟩; (rw [q1, zB_t]; refine ⟨q2, ?_⟩; rw [q3, lfN_step (k := (202 - d).toNat) (k' := (202 - (d + 1)).toNat) (by omega), if_neg (by omega)]; omega); (rw [q1, zB_f q2])
      exact z_iret hx hb hr hlocks (by rcases ht_ with ⟨q1, -, -⟩ | ⟨q1, -⟩ <;> rw [q1] <;> rfl) () (congrArg (fun z => some (Value.int (zI z))) hres) (trivial) z_nilP z_nilD hS dX6_isPrime_43
    · refine lv_iload_n hx hb dX6_isPrime_20 rfl (lv_at hl 1 rfl) ?_
      refine z_if_eq (tgt := 42) hx hb dX6_isPrime_21 (by decide) (by omega) (fun c_21 => ?_) (fun c_21 => ?_)
      · refine lv_iload_n hx hb dX6_isPrime_42 rfl (lv_at hl 1 rfl) ?_
        have hres : zB (1 < n ∧ lfac n = n) = t := by rcases ht_ with ⟨q1, q2, q3⟩ | ⟨q1, q2⟩; (rw [q1, zB_t]; refine ⟨q2, ?_⟩; rw [q3, lfN_step (k := (202 - d).toNat) (k' := (202 - (d + 1)).toNat) (by omega), if_neg (by omega)]; omega); (rw [q1, zB_f q2])
        exact z_iret hx hb hr hlocks (by rcases ht_ with ⟨q1, -, -⟩ | ⟨q1, -⟩ <;> rw [q1] <;> rfl) () (congrArg (fun z => some (Value.int (zI z))) hres) (trivial) z_nilP z_nilD hS dX6_isPrime_43
      · refine lv_iload_n hx hb dX6_isPrime_24 rfl (lv_at hl 0 rfl) ?_
        refine lv_iload_n hx hb dX6_isPrime_25 rfl (lv_at hl 2 rfl) ?_
        refine z_irem hx hb dX6_isPrime_26 (by omega) (by omega) ?_
        have hm_26 := z_rem (a := n) (n := d) (by omega)
        refine z_if_eq (tgt := 34) hx hb dX6_isPrime_27 (by decide) (by omega) (fun c_27 => ?_) (fun c_27 => ?_)
        · refine z_iconst hx hb dX6_isPrime_34 ?_
          refine lv_istore_n (lv' := [(1, .int (zI 0)), (0, .int (zI n)), (2, .int (zI d))]) hx hb dX6_isPrime_35 rfl hl (by decide) rfl (fun ls hl => ?_)
          have hl := lv_sub hl [1, 0, 2] rfl
          have hl : lv_has ls 3 [(0, .int (zI n)), (1, .int (zI 0)), (2, .int (zI d))] := hl
          refine lv_iinc (v := zI (d + 1)) (lv' := [(2, .int (zI (d + 1))), (0, .int (zI n)), (1, .int (zI 0))]) hx hb dX6_isPrime_36 hl (k := 2) rfl (zI_add _ _) (by decide) rfl (fun ls hl => ?_)
          have hl := lv_sub hl [1, 2, 0] rfl
          have hl : lv_has ls 3 [(0, .int (zI n)), (1, .int (zI 0)), (2, .int (zI (d + 1)))] := hl
          refine lv_goto (tgt := 13) hx hb dX6_isPrime_39 (by decide) ?_
          exact ih_13 (0, d + 1) _ _ _ ⟨(by have := z_sq (d := d) (by omega) (by omega); omega), (by have hf := (ht_.resolve_right (fun q => c_21 q.1)); first | (exact Or.inl ⟨rfl, hf.2.1, by rw [hf.2.2, lfN_step (k := (202 - d).toNat) (k' := (202 - (d + 1)).toNat) (by omega), if_pos c_17, if_neg c_27]⟩) | (exact Or.inr ⟨rfl, fun q => by rw [hf.2.2, lfN_step (k := (202 - d).toNat) (k' := (202 - (d + 1)).toNat) (by omega), if_pos c_17, if_pos c_27] at q; have q1 := q.2; have q2 : d * 2 ≤ d * d := Int.mul_le_mul_of_nonneg_left (by omega) (by omega); omega⟩)), hS, hl⟩ (by show (202 - (d + 1)).toNat < (202 - d).toNat; omega)
        · refine z_iconst hx hb dX6_isPrime_30 ?_
          refine lv_goto (tgt := 35) hx hb dX6_isPrime_31 (by decide) ?_
          refine lv_istore_n (lv' := [(1, .int (zI 1)), (0, .int (zI n)), (2, .int (zI d))]) hx hb dX6_isPrime_35 rfl hl (by decide) rfl (fun ls hl => ?_)
          have hl := lv_sub hl [1, 0, 2] rfl
          have hl : lv_has ls 3 [(0, .int (zI n)), (1, .int (zI 1)), (2, .int (zI d))] := hl
          refine lv_iinc (v := zI (d + 1)) (lv' := [(2, .int (zI (d + 1))), (0, .int (zI n)), (1, .int (zI 1))]) hx hb dX6_isPrime_36 hl (k := 2) rfl (zI_add _ _) (by decide) rfl (fun ls hl => ?_)
          have hl := lv_sub hl [1, 2, 0] rfl
          have hl : lv_has ls 3 [(0, .int (zI n)), (1, .int (zI 1)), (2, .int (zI (d + 1)))] := hl
          refine lv_goto (tgt := 13) hx hb dX6_isPrime_39 (by decide) ?_
          exact ih_13 (1, d + 1) _ _ _ ⟨(by have := z_sq (d := d) (by omega) (by omega); omega), (by have hf := (ht_.resolve_right (fun q => c_21 q.1)); first | (exact Or.inl ⟨rfl, hf.2.1, by rw [hf.2.2, lfN_step (k := (202 - d).toNat) (k' := (202 - (d + 1)).toNat) (by omega), if_pos c_17, if_neg c_27]⟩) | (exact Or.inr ⟨rfl, fun q => by rw [hf.2.2, lfN_step (k := (202 - d).toNat) (k' := (202 - (d + 1)).toNat) (by omega), if_pos c_17, if_pos c_27] at q; have q1 := q.2; have q2 : d * 2 ≤ d * d := Int.mul_le_mul_of_nonneg_left (by omega) (by omega); omega⟩)), hS, hl⟩ (by show (202 - (d + 1)).toNat < (202 - d).toNat; omega)

set_option maxHeartbeats 4000000 in
set_option maxRecDepth 100000 in
theorem c_X6_isPrimitive (l : Launch) (D : va_G) (b : Int) (p : Int) (hp_ : zPP p) (hb_ : 1 ≤ b ∧ b ≤ p - 1) : zF l yX6_isPrimitive wsX6_isPrimitive ({ frames := 0, cells := 0, slots := 0, locals := 0 } : Room) D [] [] [.int (zI b), .int (zI p)] (some (.int (zI (zB (iprB b p 14 (p - 1) = true))))) := by
  have hp3 := hp_.1
  have hp4 := hp_.2.1
  have hfe := fermat hp_ hb_
  refine z_start (cc := cX6_isPrimitive) (maxL := 4) (ret := (some .boolean)) (own := RX6) (by decide) rfl rfl (Nat.le_of_ble_eq_true rfl) [(0, .int (zI b)), (1, .int (zI p))] rfl ?_
  intro pp ee s mm below meth cc A H ls hx hb hr hml hts hown hlocks hin hK hA hP hD hS hR0 hR hl
  have CF : CallFix pp mm cc cX6_isPrimitive 4 s ([.int (zI b), .int (zI p)] : List Value).toArray wsX6_isPrimitive RX6 := ⟨hx, hb, hml, hown, hts⟩
  refine lv_iload_n hx hb dX6_isPrimitive_0 rfl (lv_at hl 0 rfl) ?_
  refine lv_iload_n hx hb dX6_isPrimitive_1 rfl (lv_at hl 1 rfl) ?_
  refine z_irem hx hb dX6_isPrimitive_2 (by omega) (by omega) ?_
  have hm_2 := z_rem (a := b) (n := p) (by omega)
  refine lv_istore_n (lv' := [(2, .int (zI (b % p))), (0, .int (zI b)), (1, .int (zI p))]) hx hb dX6_isPrimitive_3 rfl hl (by decide) rfl (fun ls hl => ?_)
  have hl := lv_sub hl [1, 2, 0] rfl
  have hl : lv_has ls 4 [(0, .int (zI b)), (1, .int (zI p)), (2, .int (zI (b % p)))] := hl
  refine z_iconst hx hb dX6_isPrimitive_4 ?_
  refine lv_istore_n (lv' := [(3, .int (zI 1)), (0, .int (zI b)), (1, .int (zI p)), (2, .int (zI (b % p)))]) hx hb dX6_isPrimitive_5 rfl hl (by decide) rfl (fun ls hl => ?_)
  have hl := lv_sub hl [1, 2, 3, 0] rfl
  have hl : lv_has ls 4 [(0, .int (zI b)), (1, .int (zI p)), (2, .int (zI (b % p))), (3, .int (zI 1))] := hl
  refine z_loop (σ := Int × Int) (fun (x, t) => (p - t).toNat) (fun (x, t) H locs ls => (1 ≤ t ∧ t ≤ p - 1) ∧ x = pwm b t p ∧ (0 ≤ x ∧ x < p) ∧ (∀ j, 1 ≤ j → j < t → pwm b j p ≠ 1) ∧ va_S A s.heap H locs ∧ lv_has ls 4 [(0, .int (zI b)), (1, .int (zI p)), (2, .int (zI x)), (3, .int (zI t))]) (b % p, 1) ⟨(by omega), (by unfold pwm; rw [show (1 : Int).toNat = 1 from rfl, Int.pow_succ, Int.pow_zero, Int.one_mul]), (by exact z_rem (by omega)), (fun j h1 h2 => absurd h2 (by omega)), hS, hl⟩ ?_
  intro ⟨x, t⟩ H locs ls hI ih_6
  obtain ⟨ht_, hx_, hxr, ho_, hS, hl⟩ := hI
  refine lv_iload_n hx hb dX6_isPrimitive_6 rfl (lv_at hl 2 rfl) ?_
  refine z_iconst hx hb dX6_isPrimitive_7 ?_
  refine z_icmp_eq (tgt := 23) hx hb dX6_isPrimitive_8 (by decide) (by omega) (fun c_8 => ?_) (fun c_8 => ?_)
  · refine lv_iload_n hx hb dX6_isPrimitive_23 rfl (lv_at hl 3 rfl) ?_
    refine lv_iload_n hx hb dX6_isPrimitive_24 rfl (lv_at hl 1 rfl) ?_
    refine z_iconst hx hb dX6_isPrimitive_25 ?_
    refine z_isub hx hb dX6_isPrimitive_26 ?_
    refine z_icmp_ne (tgt := 34) hx hb dX6_isPrimitive_27 (by decide) (by omega) (fun c_27 => ?_) (fun c_27 => ?_)
    · refine z_iconst hx hb dX6_isPrimitive_34 ?_
      have hres : zB (iprB b p 14 (p - 1) = true) = 0 := by rw [zB_f (fun q => (ipr_iff hp_ hb_).mp q t (by omega) (by omega) (by rw [← hx_]; exact c_8))]
      exact z_iret hx hb hr hlocks (rfl) () (congrArg (fun z => some (Value.int (zI z))) hres) (trivial) z_nilP z_nilD hS dX6_isPrimitive_35
    · refine z_iconst hx hb dX6_isPrimitive_30 ?_
      refine lv_goto (tgt := 35) hx hb dX6_isPrimitive_31 (by decide) ?_
      have hres : zB (iprB b p 14 (p - 1) = true) = 1 := by rw [zB_t ((ipr_iff hp_ hb_).mpr (fun j h1 h2 => ho_ j h1 (by omega)))]
      exact z_iret hx hb hr hlocks (rfl) () (congrArg (fun z => some (Value.int (zI z))) hres) (trivial) z_nilP z_nilD hS dX6_isPrimitive_35
  · refine lv_iload_n hx hb dX6_isPrimitive_11 rfl (lv_at hl 2 rfl) ?_
    refine lv_iload_n hx hb dX6_isPrimitive_12 rfl (lv_at hl 0 rfl) ?_
    refine z_imul hx hb dX6_isPrimitive_13 ?_
    have hb1 := z_mulb (a := x) (b := b) (A := 10000) (B := 10000) (by omega) (by omega) (by omega) (by omega)
    refine lv_iload_n hx hb dX6_isPrimitive_14 rfl (lv_at hl 1 rfl) ?_
    refine z_irem hx hb dX6_isPrimitive_15 (by omega) (by omega) ?_
    have hm_15 := z_rem (a := x * b) (n := p) (by omega)
    refine lv_istore_n (lv' := [(2, .int (zI ((x * b) % p))), (0, .int (zI b)), (1, .int (zI p)), (3, .int (zI t))]) hx hb dX6_isPrimitive_16 rfl hl (by decide) rfl (fun ls hl => ?_)
    have hl := lv_sub hl [1, 2, 0, 3] rfl
    have hl : lv_has ls 4 [(0, .int (zI b)), (1, .int (zI p)), (2, .int (zI ((x * b) % p))), (3, .int (zI t))] := hl
    refine lv_iinc (v := zI (t + 1)) (lv' := [(3, .int (zI (t + 1))), (0, .int (zI b)), (1, .int (zI p)), (2, .int (zI ((x * b) % p)))]) hx hb dX6_isPrimitive_17 hl (k := 3) rfl (zI_add _ _) (by decide) rfl (fun ls hl => ?_)
    have hl := lv_sub hl [1, 2, 3, 0] rfl
    have hl : lv_has ls 4 [(0, .int (zI b)), (1, .int (zI p)), (2, .int (zI ((x * b) % p))), (3, .int (zI (t + 1)))] := hl
    refine lv_goto (tgt := 6) hx hb dX6_isPrimitive_20 (by decide) ?_
    exact ih_6 ((x * b) % p, t + 1) _ _ _ ⟨(by have q : t ≠ p - 1 := (fun z => c_8 (by rw [hx_, z]; exact hfe)); omega), (by rw [hx_, pwm_s (by omega)]), (by exact z_rem (by omega)), (by exact fun j h1 h2 => by by_cases e : j = t; (rw [e, ← hx_]; exact c_8); exact ho_ j h1 (by omega)), hS, hl⟩ (by show (p - (t + 1)).toNat < (p - t).toNat; have q : t ≠ p - 1 := (fun z => c_8 (by rw [hx_, z]; exact hfe)); omega)

set_option maxHeartbeats 4000000 in
set_option maxRecDepth 100000 in
theorem c_X6_restAt (l : Launch) (D : va_G) (cI : ClassId) (h0 : Nat) (ae : Nat) (al : Nat) (ap : Nat) (az : Nat) (ar : Nat) (am : Nat) (np : Int) (th : Int) (xe : Int → Int) (xl : Int → Int) (r : Int) (x : Int) (p : Int) (hr_r : 0 ≤ r ∧ r < 4) (hxl_r : 0 ≤ xl r ∧ xl r ≤ 64) (hxe : ∀ k, 0 ≤ k → k < 256 → -1000000 ≤ xe k ∧ xe k ≤ 1000000) (hx_ : 0 ≤ x ∧ x < 64) (hp_ : 1 ≤ p ∧ p ≤ 10000) : zF l yX6_restAt wsX6_restAt ({ frames := 1, cells := 0, slots := 0, locals := 22 } : Room) D [(cI, .int)] [(h0, .inr (5, [.ref ae, .ref al, .ref ap, .ref az, .ref ar, .int (zI np), .ref am, .int (zI th)])), (ae, .inl (cI, 256, .inl (zA xe))), (al, .inl (cI, 4, .inl (zA xl)))] [.ref h0, .int (zI r), .int (zI x), .int (zI p)] (some (.int (zI (rowAt (eRow xe r) (xl r) x % p)))) := by
  refine z_start (cc := cX6_restAt) (maxL := 4) (ret := (some .int)) (own := RX6) (by decide) rfl rfl (Nat.le_of_ble_eq_true rfl) [(0, .ref h0), (1, .int (zI r)), (2, .int (zI x)), (3, .int (zI p))] rfl ?_
  intro pp ee s mm below meth cc A H ls hx hb hr hml hts hown hlocks hin hK hA hP hD hS hR0 hR hl
  have CF : CallFix pp mm cc cX6_restAt 4 s ([.ref h0, .int (zI r), .int (zI x), .int (zI p)] : List Value).toArray wsX6_restAt RX6 := ⟨hx, hb, hml, hown, hts⟩
  have hi6 : ∀ w ∈ wsX60, w ∈ wsX6_restAt := by decide +kernel
  refine lv_iload_n hx hb dX6_restAt_0 rfl (lv_at hl 2 rfl) ?_
  refine lv_aload_n hx hb dX6_restAt_1 rfl (lv_at hl 0 rfl) ?_
  refine va_get (D := D) (ci := 5) (C := RX6) (T := TX6) (N := 8) hx hb hts hi6 hown hK hR 0 rfl rfl 1 (by decide) (hts (.fieldLink RX6 13 "ButterflyYardModel" "lengths" "[I") (by decide +kernel)) (fun _ h9 => h9) rfl dX6_restAt_2 ?_
  refine lv_iload_n hx hb dX6_restAt_5 rfl (lv_at hl 1 rfl) ?_
  refine z_iald (cA := cI) (n := 4) (g := xl) hx hb hK hR 2 0 rfl rfl rfl (by omega) dX6_restAt_6 ?_
  refine z_icmp_ge (tgt := 28) hx hb dX6_restAt_7 (by decide) (by omega) (fun c_7 => ?_) (fun c_7 => ?_)
  · refine z_iconst hx hb dX6_restAt_28 ?_
    have hres : rowAt (eRow xe r) (xl r) x % p = 0 := by rw [rowAt_out (by omega), Int.zero_emod]
    exact z_iret hx hb hr hlocks rfl () (congrArg (fun z => some (Value.int (zI z))) hres) (trivial) z_nilP z_nilD hS dX6_restAt_29
  · refine lv_aload_n hx hb dX6_restAt_10 rfl (lv_at hl 0 rfl) ?_
    refine va_get (D := D) (ci := 5) (C := RX6) (T := TX6) (N := 8) hx hb hts hi6 hown hK hR 0 rfl rfl 0 (by decide) (hts (.fieldLink RX6 7 "ButterflyYardModel" "entries" "[I") (by decide +kernel)) (fun _ h9 => h9) rfl dX6_restAt_11 ?_
    refine z_bipush hx hb dX6_restAt_14 (by decide) ?_
    refine lv_iload_n hx hb dX6_restAt_16 rfl (lv_at hl 1 rfl) ?_
    refine z_imul hx hb dX6_restAt_17 ?_
    refine lv_iload_n hx hb dX6_restAt_18 rfl (lv_at hl 2 rfl) ?_
    refine z_iadd hx hb dX6_restAt_19 ?_
    refine z_iald (cA := cI) (n := 256) (g := xe) hx hb hK hR 1 0 rfl rfl rfl (by omega) dX6_restAt_20 ?_
    have hxi := hxe (64 * r + x) (by omega) (by omega)
    refine lv_iload_n hx hb dX6_restAt_21 rfl (lv_at hl 3 rfl) ?_
    have hRc : va_P D vwCl [] H := z_nilP
    refine z_ro (ws := []) (va_runS (As := [.int (zI (xe ((64 * r) + x))), .int (zI p)]) (rest := []) CF (c_X6_rest l D (xe ((64 * r) + x)) p (by omega) (by omega) H.size) (va_cwS 2 hts gX6_restAt_X6_rest rfl rfl rfl (by decide +kernel) ⟨Nat.le_of_ble_eq_true rfl, Nat.le_of_ble_eq_true rfl⟩) (z_preS z_nilP (z_nilD (A := A)) hRc z_noX (hK.sub (tys' := []) [] rfl)) rfl rfl hl.1 rfl (lv_room (Nat.le_of_ble_eq_true rfl)) dX6_restAt_22 ⟨Nat.le_of_ble_eq_true rfl, Nat.le_of_ble_eq_true rfl⟩) z_nilP hS hA (cells' := 0) (slots' := 0) rfl rfl (fun H locs hP hS => ?_)
    have hR := hR0.at hS
    refine lv_goto (tgt := 29) hx hb dX6_restAt_25 (by decide) ?_
    have hres : rowAt (eRow xe r) (xl r) x % p = (xe ((64 * r) + x)) % p := by rw [rowAt_in (by omega)]; rfl
    exact z_iret hx hb hr hlocks rfl () (congrArg (fun z => some (Value.int (zI z))) hres) (trivial) z_nilP z_nilD hS dX6_restAt_29

set_option maxHeartbeats 4000000 in
set_option maxRecDepth 100000 in
theorem c_X6_put (l : Launch) (D : va_G) (cI : ClassId) (h0 : Nat) (ae : Nat) (al : Nat) (ap : Nat) (az : Nat) (ar : Nat) (am : Nat) (np : Int) (th : Int) (xe : Int → Int) (xl : Int → Int) (xm : Int → Int) (tg : Int) (mn : Int) (hr_tg : 0 ≤ tg ∧ tg < 4) (hmn : 0 ≤ mn ∧ mn ≤ 64) : zC l yX6_put wsX6_put ({ frames := 0, cells := 0, slots := 0, locals := 0 } : Room) D [(cI, .int)] [(ae, .inl (cI, 256, .inl (zA xe))), (al, .inl (cI, 4, .inl (zA xl)))] [(h0, .inr (5, [.ref ae, .ref al, .ref ap, .ref az, .ref ar, .int (zI np), .ref am, .int (zI th)])), (am, .inl (cI, 64, .inl (zA xm)))] [.ref h0, .int (zI tg), .int (zI mn)] (S := Int → Int) (fun xe2 => (∀ k, 0 ≤ k → k < mn → xe2 (64 * tg + k) = xm k) ∧ (∀ x, x < 64 * tg ∨ 64 * tg + mn ≤ x → xe2 x = xe x)) (fun xe2 => some (.int (zI mn))) (fun xe2 => [(ae, .inl (cI, 256, .inl (zA xe2))), (al, .inl (cI, 4, .inl (zA (zU xl tg mn))))]) := by
  refine z_start (cc := cX6_put) (maxL := 4) (ret := (some .int)) (own := RX6) (by decide) rfl rfl (Nat.le_of_ble_eq_true rfl) [(0, .ref h0), (1, .int (zI tg)), (2, .int (zI mn))] rfl ?_
  intro pp ee s mm below meth cc A H ls hx hb hr hml hts hown hlocks hin hK hA hP hD hS hR0 hR hl
  have CF : CallFix pp mm cc cX6_put 4 s ([.ref h0, .int (zI tg), .int (zI mn)] : List Value).toArray wsX6_put RX6 := ⟨hx, hb, hml, hown, hts⟩
  have hi6 : ∀ w ∈ wsX60, w ∈ wsX6_put := by decide +kernel
  refine z_iconst hx hb dX6_put_0 ?_
  refine lv_istore_n (lv' := [(3, .int (zI 0)), (0, .ref h0), (1, .int (zI tg)), (2, .int (zI mn))]) hx hb dX6_put_1 rfl hl (by decide) rfl (fun ls hl => ?_)
  have hl := lv_sub hl [1, 2, 3, 0] rfl
  have hl : lv_has ls 4 [(0, .ref h0), (1, .int (zI tg)), (2, .int (zI mn)), (3, .int (zI 0))] := hl
  refine z_loop (σ := Int × (Int → Int)) (fun (i, xe2) => (mn - i).toNat) (fun (i, xe2) H locs ls => (0 ≤ i ∧ i ≤ mn) ∧ (∀ k, 0 ≤ k → k < i → xe2 (64 * tg + k) = xm k) ∧ (∀ x, x < 64 * tg ∨ 64 * tg + i ≤ x → xe2 x = xe x) ∧ va_P D vwCl [(ae, .inl (cI, 256, .inl (zA xe2))), (al, .inl (cI, 4, .inl (zA xl)))] H ∧ va_D A [(ae, .inl (cI, 256, .inl (zA xe2))), (al, .inl (cI, 4, .inl (zA xl)))] ∧ va_S A s.heap H locs ∧ lv_has ls 4 [(0, .ref h0), (1, .int (zI tg)), (2, .int (zI mn)), (3, .int (zI i))]) (0, xe) ⟨(by omega), (fun k h1 h2 => absurd h2 (by omega)), (fun x _ => rfl), hP, hD, hS, hl⟩ ?_
  intro ⟨i, xe2⟩ H locs ls hI ih_2
  obtain ⟨hi_, hf, hkp, hP, hD, hS, hl⟩ := hI
  have hR := hR0.at hS
  refine lv_iload_n hx hb dX6_put_2 rfl (lv_at hl 3 rfl) ?_
  refine lv_iload_n hx hb dX6_put_3 rfl (lv_at hl 2 rfl) ?_
  refine z_icmp_ge (tgt := 30) hx hb dX6_put_4 (by decide) (by omega) (fun c_4 => ?_) (fun c_4 => ?_)
  · refine lv_aload_n hx hb dX6_put_30 rfl (lv_at hl 0 rfl) ?_
    refine va_get (D := D) (ci := 5) (C := RX6) (T := TX6) (N := 8) hx hb hts hi6 hown hK hR 0 rfl rfl 1 (by decide) (hts (.fieldLink RX6 13 "ButterflyYardModel" "lengths" "[I") (by decide +kernel)) (fun _ h9 => h9) rfl dX6_put_31 ?_
    refine lv_iload_n hx hb dX6_put_34 rfl (lv_at hl 1 rfl) ?_
    refine lv_iload_n hx hb dX6_put_35 rfl (lv_at hl 2 rfl) ?_
    refine z_iast (cA := cI) (n := 4) (g := xl) (i := tg) (v := mn) hx hb hK hP hD hS 1 0 rfl rfl rfl (by omega) dX6_put_36 (fun H locs hP hD hS => ?_)
    have hP : va_P D vwCl [(ae, .inl (cI, 256, .inl (zA xe2))), (al, .inl (cI, 4, .inl (zA (zU xl tg mn))))] H := hP
    have hD : va_D A [(ae, .inl (cI, 256, .inl (zA xe2))), (al, .inl (cI, 4, .inl (zA (zU xl tg mn))))] := hD
    have hR := hR0.at hS
    refine lv_iload_n hx hb dX6_put_37 rfl (lv_at hl 2 rfl) ?_
    exact z_iret hx hb hr hlocks rfl xe2 (rfl) (by exact ⟨fun k h1 h2 => hf k h1 (by omega), fun x h => hkp x (by omega)⟩) hP hD hS dX6_put_38
  · refine lv_aload_n hx hb dX6_put_7 rfl (lv_at hl 0 rfl) ?_
    refine va_get (D := D) (ci := 5) (C := RX6) (T := TX6) (N := 8) hx hb hts hi6 hown hK hR 0 rfl rfl 0 (by decide) (hts (.fieldLink RX6 7 "ButterflyYardModel" "entries" "[I") (by decide +kernel)) (fun _ h9 => h9) rfl dX6_put_8 ?_
    refine z_bipush hx hb dX6_put_11 (by decide) ?_
    refine lv_iload_n hx hb dX6_put_13 rfl (lv_at hl 1 rfl) ?_
    refine z_imul hx hb dX6_put_14 ?_
    refine lv_iload_n hx hb dX6_put_15 rfl (lv_at hl 3 rfl) ?_
    refine z_iadd hx hb dX6_put_16 ?_
    refine lv_aload_n hx hb dX6_put_17 rfl (lv_at hl 0 rfl) ?_
    refine va_get (D := D) (ci := 5) (C := RX6) (T := TX6) (N := 8) hx hb hts hi6 hown hK hR 0 rfl rfl 6 (by decide) (hts (.fieldLink RX6 25 "ButterflyYardModel" "made" "[I") (by decide +kernel)) (fun _ h9 => h9) rfl dX6_put_18 ?_
    refine lv_iload_n hx hb dX6_put_21 rfl (lv_at hl 3 rfl) ?_
    refine z_iald (cA := cI) (n := 64) (g := xm) hx hb hK hR 1 0 rfl rfl rfl (by omega) dX6_put_22 ?_
    refine z_iast (cA := cI) (n := 256) (g := xe2) (i := (64 * tg) + i) (v := xm i) hx hb hK hP hD hS 0 0 rfl rfl rfl (by omega) dX6_put_23 (fun H locs hP hD hS => ?_)
    have hP : va_P D vwCl [(ae, .inl (cI, 256, .inl (zA (zU xe2 ((64 * tg) + i) (xm i))))), (al, .inl (cI, 4, .inl (zA xl)))] H := hP
    have hD : va_D A [(ae, .inl (cI, 256, .inl (zA (zU xe2 ((64 * tg) + i) (xm i))))), (al, .inl (cI, 4, .inl (zA xl)))] := hD
    have hR := hR0.at hS
    refine lv_iinc (v := zI (i + 1)) (lv' := [(3, .int (zI (i + 1))), (0, .ref h0), (1, .int (zI tg)), (2, .int (zI mn))]) hx hb dX6_put_24 hl (k := 3) rfl (zI_add _ _) (by decide) rfl (fun ls hl => ?_)
    have hl := lv_sub hl [1, 2, 3, 0] rfl
    have hl : lv_has ls 4 [(0, .ref h0), (1, .int (zI tg)), (2, .int (zI mn)), (3, .int (zI (i + 1)))] := hl
    refine lv_goto (tgt := 2) hx hb dX6_put_27 (by decide) ?_
    exact ih_2 (i + 1, zU xe2 ((64 * tg) + i) (xm i)) _ _ _ ⟨(by omega), (by exact fun k h1 h2 => by by_cases e : k = i; (subst e; rw [zU_s]); (rw [zU_n _ _ (by omega)]; exact hf k h1 (by omega))), (by exact fun x h => by rw [zU_n _ _ (by omega)]; exact hkp x (by omega)), hP, hD, hS, hl⟩ (by show (mn - (i + 1)).toNat < (mn - i).toNat; omega)

set_option maxHeartbeats 4000000 in
set_option maxRecDepth 100000 in
theorem c_X6_append_1 (l : Launch) (D : va_G) (cI : ClassId) (h0 : Nat) (ae : Nat) (al : Nat) (ap : Nat) (az : Nat) (ar : Nat) (am : Nat) (np : Int) (th : Int) (r : Int) (x : Int) (ha_r : -2147483648 ≤ r ∧ r ≤ 2147483647) (ha_x : -2147483648 ≤ x ∧ x ≤ 2147483647) (hb_r : ¬ (0 ≤ r ∧ r < 4)) : zC l yX6_append wsX6_append ({ frames := 1, cells := 0, slots := 0, locals := 20 } : Room) D [(cI, .int)] [(h0, .inr (5, [.ref ae, .ref al, .ref ap, .ref az, .ref ar, .int (zI np), .ref am, .int (zI th)]))] [] [.ref h0, .int (zI r), .int (zI x)] (S := Unit) (fun u => True) (fun u => some (.int (zI 0))) (fun u => [(h0, .inr (5, [.ref ae, .ref al, .ref ap, .ref az, .ref ar, .int (zI np), .ref am, .int (zI 1)]))]) := by
  refine z_start (cc := cX6_append) (maxL := 3) (ret := (some .int)) (own := RX6) (by decide) rfl rfl (Nat.le_of_ble_eq_true rfl) [(0, .ref h0), (1, .int (zI r)), (2, .int (zI x))] rfl ?_
  intro pp ee s mm below meth cc A H ls hx hb hr hml hts hown hlocks hin hK hA hP hD hS hR0 hR hl
  have CF : CallFix pp mm cc cX6_append 3 s ([.ref h0, .int (zI r), .int (zI x)] : List Value).toArray wsX6_append RX6 := ⟨hx, hb, hml, hown, hts⟩
  have hi6 : ∀ w ∈ wsX60, w ∈ wsX6_append := by decide +kernel
  refine lv_aload_n hx hb dX6_append_0 rfl (lv_at hl 0 rfl) ?_
  refine lv_iload_n hx hb dX6_append_1 rfl (lv_at hl 1 rfl) ?_
  have hRc : va_P D vwCl [] H := z_nilP
  refine z_ro (ws := [(h0, .inr (5, [.ref ae, .ref al, .ref ap, .ref az, .ref ar, .int (zI np), .ref am, .int (zI th)]))]) (va_runS (As := [.int (zI r)]) (rest := [.ref h0]) CF (c_X6_isRow l D r (by omega) H.size) (va_cwS 1 hts gX6_append_X6_isRow rfl rfl rfl (by decide +kernel) ⟨Nat.le_of_ble_eq_true rfl, Nat.le_of_ble_eq_true rfl⟩) (z_preS z_nilP (z_nilD (A := A)) hRc z_noX (hK.sub (tys' := []) [] rfl)) rfl rfl hl.1 rfl (lv_room (Nat.le_of_ble_eq_true rfl)) dX6_append_2 ⟨Nat.le_of_ble_eq_true rfl, Nat.le_of_ble_eq_true rfl⟩) hP hS hA (cells' := 0) (slots' := 0) rfl rfl (fun H locs hP hS => ?_)
  refine z_ifB_ne (tgt := 12) hx hb dX6_append_5 (by decide) (fun c_5 => absurd c_5 (by omega)) (fun c_5 => ?_)
  refine z_iconst hx hb dX6_append_8 ?_
  refine lv_goto (tgt := 46) hx hb dX6_append_9 (by decide) ?_
  refine va_put (D := D) (ci := 5) (v := .int (zI 1)) (ty := .int) (C := RX6) (T := TX6) (N := 8) hx hb hts hi6 tyX6 tyX6_ok nmX6 hown hK hP hD hS 0 rfl rfl 7 (by decide) (hts (.fieldLink RX6 28 "ButterflyYardModel" "thrown" "I") (by decide +kernel)) (fun _ h9 => h9) rfl (by decide +kernel) rfl rfl (Nat.le_of_ble_eq_true rfl) dX6_append_46 (fun H locs hP hD hS => ?_)
  have hP : va_P D vwCl [(h0, .inr (5, [.ref ae, .ref al, .ref ap, .ref az, .ref ar, .int (zI np), .ref am, .int (zI 1)]))] H := hP
  have hD : va_D A [(h0, .inr (5, [.ref ae, .ref al, .ref ap, .ref az, .ref ar, .int (zI np), .ref am, .int (zI 1)]))] := hD
  refine lv_aload_n hx hb dX6_append_49 rfl (lv_at hl 0 rfl) ?_
  refine va_get (D := D) (ci := 5) (C := RX6) (T := TX6) (N := 8) hx hb hts hi6 hown hK hP 0 rfl rfl 7 (by decide) (hts (.fieldLink RX6 28 "ButterflyYardModel" "thrown" "I") (by decide +kernel)) (fun _ h9 => h9) rfl dX6_append_50 ?_
  refine z_if_eq (tgt := 58) hx hb dX6_append_53 (by decide) (by omega) (fun c_53 => absurd c_53 (by omega)) (fun c_53 => ?_)
  refine z_iconst hx hb dX6_append_56 ?_
  exact z_iret hx hb hr hlocks rfl () (rfl) (trivial) hP hD hS dX6_append_57

set_option maxHeartbeats 4000000 in
set_option maxRecDepth 100000 in
theorem c_X6_append_2 (l : Launch) (D : va_G) (cI : ClassId) (h0 : Nat) (ae : Nat) (al : Nat) (ap : Nat) (az : Nat) (ar : Nat) (am : Nat) (np : Int) (th : Int) (r : Int) (x : Int) (ha_r : -2147483648 ≤ r ∧ r ≤ 2147483647) (ha_x : -2147483648 ≤ x ∧ x ≤ 2147483647) (hr_r : 0 ≤ r ∧ r < 4) (hv : ¬ (-9999 ≤ x ∧ x ≤ 9999)) : zC l yX6_append wsX6_append ({ frames := 1, cells := 0, slots := 0, locals := 20 } : Room) D [(cI, .int)] [(h0, .inr (5, [.ref ae, .ref al, .ref ap, .ref az, .ref ar, .int (zI np), .ref am, .int (zI th)]))] [] [.ref h0, .int (zI r), .int (zI x)] (S := Unit) (fun u => True) (fun u => some (.int (zI 0))) (fun u => [(h0, .inr (5, [.ref ae, .ref al, .ref ap, .ref az, .ref ar, .int (zI np), .ref am, .int (zI 2)]))]) := by
  refine z_start (cc := cX6_append) (maxL := 3) (ret := (some .int)) (own := RX6) (by decide) rfl rfl (Nat.le_of_ble_eq_true rfl) [(0, .ref h0), (1, .int (zI r)), (2, .int (zI x))] rfl ?_
  intro pp ee s mm below meth cc A H ls hx hb hr hml hts hown hlocks hin hK hA hP hD hS hR0 hR hl
  have CF : CallFix pp mm cc cX6_append 3 s ([.ref h0, .int (zI r), .int (zI x)] : List Value).toArray wsX6_append RX6 := ⟨hx, hb, hml, hown, hts⟩
  have hi6 : ∀ w ∈ wsX60, w ∈ wsX6_append := by decide +kernel
  refine lv_aload_n hx hb dX6_append_0 rfl (lv_at hl 0 rfl) ?_
  refine lv_iload_n hx hb dX6_append_1 rfl (lv_at hl 1 rfl) ?_
  have hRc : va_P D vwCl [] H := z_nilP
  refine z_ro (ws := [(h0, .inr (5, [.ref ae, .ref al, .ref ap, .ref az, .ref ar, .int (zI np), .ref am, .int (zI th)]))]) (va_runS (As := [.int (zI r)]) (rest := [.ref h0]) CF (c_X6_isRow l D r (by omega) H.size) (va_cwS 1 hts gX6_append_X6_isRow rfl rfl rfl (by decide +kernel) ⟨Nat.le_of_ble_eq_true rfl, Nat.le_of_ble_eq_true rfl⟩) (z_preS z_nilP (z_nilD (A := A)) hRc z_noX (hK.sub (tys' := []) [] rfl)) rfl rfl hl.1 rfl (lv_room (Nat.le_of_ble_eq_true rfl)) dX6_append_2 ⟨Nat.le_of_ble_eq_true rfl, Nat.le_of_ble_eq_true rfl⟩) hP hS hA (cells' := 0) (slots' := 0) rfl rfl (fun H locs hP hS => ?_)
  refine z_ifB_ne (tgt := 12) hx hb dX6_append_5 (by decide) (fun c_5 => ?_) (fun c_5 => absurd c_5 (by omega))
  refine lv_iload_n hx hb dX6_append_12 rfl (lv_at hl 2 rfl) ?_
  refine z_sipush hx hb dX6_append_13 (by decide) ?_
  refine z_icmp_lt (tgt := 26) hx hb dX6_append_16 (by decide) (by omega) (fun c_16 => ?_) (fun c_16 => ?_)
  · refine z_iconst hx hb dX6_append_26 ?_
    refine lv_goto (tgt := 46) hx hb dX6_append_27 (by decide) ?_
    refine va_put (D := D) (ci := 5) (v := .int (zI 2)) (ty := .int) (C := RX6) (T := TX6) (N := 8) hx hb hts hi6 tyX6 tyX6_ok nmX6 hown hK hP hD hS 0 rfl rfl 7 (by decide) (hts (.fieldLink RX6 28 "ButterflyYardModel" "thrown" "I") (by decide +kernel)) (fun _ h9 => h9) rfl (by decide +kernel) rfl rfl (Nat.le_of_ble_eq_true rfl) dX6_append_46 (fun H locs hP hD hS => ?_)
    have hP : va_P D vwCl [(h0, .inr (5, [.ref ae, .ref al, .ref ap, .ref az, .ref ar, .int (zI np), .ref am, .int (zI 2)]))] H := hP
    have hD : va_D A [(h0, .inr (5, [.ref ae, .ref al, .ref ap, .ref az, .ref ar, .int (zI np), .ref am, .int (zI 2)]))] := hD
    refine lv_aload_n hx hb dX6_append_49 rfl (lv_at hl 0 rfl) ?_
    refine va_get (D := D) (ci := 5) (C := RX6) (T := TX6) (N := 8) hx hb hts hi6 hown hK hP 0 rfl rfl 7 (by decide) (hts (.fieldLink RX6 28 "ButterflyYardModel" "thrown" "I") (by decide +kernel)) (fun _ h9 => h9) rfl dX6_append_50 ?_
    refine z_if_eq (tgt := 58) hx hb dX6_append_53 (by decide) (by omega) (fun c_53 => absurd c_53 (by omega)) (fun c_53 => ?_)
    refine z_iconst hx hb dX6_append_56 ?_
    exact z_iret hx hb hr hlocks rfl () (rfl) (trivial) hP hD hS dX6_append_57
  · refine lv_iload_n hx hb dX6_append_19 rfl (lv_at hl 2 rfl) ?_
    refine z_sipush hx hb dX6_append_20 (by decide) ?_
    refine z_icmp_le (tgt := 30) hx hb dX6_append_23 (by decide) (by omega) (fun c_23 => absurd c_23 (by omega)) (fun c_23 => ?_)
    refine z_iconst hx hb dX6_append_26 ?_
    refine lv_goto (tgt := 46) hx hb dX6_append_27 (by decide) ?_
    refine va_put (D := D) (ci := 5) (v := .int (zI 2)) (ty := .int) (C := RX6) (T := TX6) (N := 8) hx hb hts hi6 tyX6 tyX6_ok nmX6 hown hK hP hD hS 0 rfl rfl 7 (by decide) (hts (.fieldLink RX6 28 "ButterflyYardModel" "thrown" "I") (by decide +kernel)) (fun _ h9 => h9) rfl (by decide +kernel) rfl rfl (Nat.le_of_ble_eq_true rfl) dX6_append_46 (fun H locs hP hD hS => ?_)
    have hP : va_P D vwCl [(h0, .inr (5, [.ref ae, .ref al, .ref ap, .ref az, .ref ar, .int (zI np), .ref am, .int (zI 2)]))] H := hP
    have hD : va_D A [(h0, .inr (5, [.ref ae, .ref al, .ref ap, .ref az, .ref ar, .int (zI np), .ref am, .int (zI 2)]))] := hD
    refine lv_aload_n hx hb dX6_append_49 rfl (lv_at hl 0 rfl) ?_
    refine va_get (D := D) (ci := 5) (C := RX6) (T := TX6) (N := 8) hx hb hts hi6 hown hK hP 0 rfl rfl 7 (by decide) (hts (.fieldLink RX6 28 "ButterflyYardModel" "thrown" "I") (by decide +kernel)) (fun _ h9 => h9) rfl dX6_append_50 ?_
    refine z_if_eq (tgt := 58) hx hb dX6_append_53 (by decide) (by omega) (fun c_53 => absurd c_53 (by omega)) (fun c_53 => ?_)
    refine z_iconst hx hb dX6_append_56 ?_
    exact z_iret hx hb hr hlocks rfl () (rfl) (trivial) hP hD hS dX6_append_57

set_option maxHeartbeats 4000000 in
set_option maxRecDepth 100000 in
theorem c_X6_append_3 (l : Launch) (D : va_G) (cI : ClassId) (h0 : Nat) (ae : Nat) (al : Nat) (ap : Nat) (az : Nat) (ar : Nat) (am : Nat) (np : Int) (th : Int) (xl : Int → Int) (r : Int) (x : Int) (ha_r : -2147483648 ≤ r ∧ r ≤ 2147483647) (ha_x : -2147483648 ≤ x ∧ x ≤ 2147483647) (hr_r : 0 ≤ r ∧ r < 4) (hv : -9999 ≤ x ∧ x ≤ 9999) (hl_ : xl r = 64) : zC l yX6_append wsX6_append ({ frames := 1, cells := 0, slots := 0, locals := 20 } : Room) D [(cI, .int)] [(h0, .inr (5, [.ref ae, .ref al, .ref ap, .ref az, .ref ar, .int (zI np), .ref am, .int (zI th)]))] [(al, .inl (cI, 4, .inl (zA xl)))] [.ref h0, .int (zI r), .int (zI x)] (S := Unit) (fun u => True) (fun u => some (.int (zI 0))) (fun u => [(h0, .inr (5, [.ref ae, .ref al, .ref ap, .ref az, .ref ar, .int (zI np), .ref am, .int (zI 3)]))]) := by
  refine z_start (cc := cX6_append) (maxL := 3) (ret := (some .int)) (own := RX6) (by decide) rfl rfl (Nat.le_of_ble_eq_true rfl) [(0, .ref h0), (1, .int (zI r)), (2, .int (zI x))] rfl ?_
  intro pp ee s mm below meth cc A H ls hx hb hr hml hts hown hlocks hin hK hA hP hD hS hR0 hR hl
  have CF : CallFix pp mm cc cX6_append 3 s ([.ref h0, .int (zI r), .int (zI x)] : List Value).toArray wsX6_append RX6 := ⟨hx, hb, hml, hown, hts⟩
  have hi6 : ∀ w ∈ wsX60, w ∈ wsX6_append := by decide +kernel
  refine lv_aload_n hx hb dX6_append_0 rfl (lv_at hl 0 rfl) ?_
  refine lv_iload_n hx hb dX6_append_1 rfl (lv_at hl 1 rfl) ?_
  have hRc : va_P D vwCl [] H := z_nilP
  refine z_ro (ws := [(h0, .inr (5, [.ref ae, .ref al, .ref ap, .ref az, .ref ar, .int (zI np), .ref am, .int (zI th)]))]) (va_runS (As := [.int (zI r)]) (rest := [.ref h0]) CF (c_X6_isRow l D r (by omega) H.size) (va_cwS 1 hts gX6_append_X6_isRow rfl rfl rfl (by decide +kernel) ⟨Nat.le_of_ble_eq_true rfl, Nat.le_of_ble_eq_true rfl⟩) (z_preS z_nilP (z_nilD (A := A)) hRc z_noX (hK.sub (tys' := []) [] rfl)) rfl rfl hl.1 rfl (lv_room (Nat.le_of_ble_eq_true rfl)) dX6_append_2 ⟨Nat.le_of_ble_eq_true rfl, Nat.le_of_ble_eq_true rfl⟩) hP hS hA (cells' := 0) (slots' := 0) rfl rfl (fun H locs hP hS => ?_)
  have hR := hR0.at hS
  refine z_ifB_ne (tgt := 12) hx hb dX6_append_5 (by decide) (fun c_5 => ?_) (fun c_5 => absurd c_5 (by omega))
  refine lv_iload_n hx hb dX6_append_12 rfl (lv_at hl 2 rfl) ?_
  refine z_sipush hx hb dX6_append_13 (by decide) ?_
  refine z_icmp_lt (tgt := 26) hx hb dX6_append_16 (by decide) (by omega) (fun c_16 => absurd c_16 (by omega)) (fun c_16 => ?_)
  refine lv_iload_n hx hb dX6_append_19 rfl (lv_at hl 2 rfl) ?_
  refine z_sipush hx hb dX6_append_20 (by decide) ?_
  refine z_icmp_le (tgt := 30) hx hb dX6_append_23 (by decide) (by omega) (fun c_23 => ?_) (fun c_23 => absurd c_23 (by omega))
  refine lv_aload_n hx hb dX6_append_30 rfl (lv_at hl 0 rfl) ?_
  refine va_get (D := D) (ci := 5) (C := RX6) (T := TX6) (N := 8) hx hb hts hi6 hown hK hP 0 rfl rfl 1 (by decide) (hts (.fieldLink RX6 13 "ButterflyYardModel" "lengths" "[I") (by decide +kernel)) (fun _ h9 => h9) rfl dX6_append_31 ?_
  refine lv_iload_n hx hb dX6_append_34 rfl (lv_at hl 1 rfl) ?_
  refine z_iald (cA := cI) (n := 4) (g := xl) hx hb hK hR 0 0 rfl rfl rfl (by omega) dX6_append_35 ?_
  refine z_bipush hx hb dX6_append_36 (by decide) ?_
  refine z_icmp_ne (tgt := 45) hx hb dX6_append_38 (by decide) (by omega) (fun c_38 => absurd c_38 (by omega)) (fun c_38 => ?_)
  refine z_iconst hx hb dX6_append_41 ?_
  refine lv_goto (tgt := 46) hx hb dX6_append_42 (by decide) ?_
  refine va_put (D := D) (ci := 5) (v := .int (zI 3)) (ty := .int) (C := RX6) (T := TX6) (N := 8) hx hb hts hi6 tyX6 tyX6_ok nmX6 hown hK hP hD hS 0 rfl rfl 7 (by decide) (hts (.fieldLink RX6 28 "ButterflyYardModel" "thrown" "I") (by decide +kernel)) (fun _ h9 => h9) rfl (by decide +kernel) rfl rfl (Nat.le_of_ble_eq_true rfl) dX6_append_46 (fun H locs hP hD hS => ?_)
  have hP : va_P D vwCl [(h0, .inr (5, [.ref ae, .ref al, .ref ap, .ref az, .ref ar, .int (zI np), .ref am, .int (zI 3)]))] H := hP
  have hD : va_D A [(h0, .inr (5, [.ref ae, .ref al, .ref ap, .ref az, .ref ar, .int (zI np), .ref am, .int (zI 3)]))] := hD
  have hR := hR0.at hS
  refine lv_aload_n hx hb dX6_append_49 rfl (lv_at hl 0 rfl) ?_
  refine va_get (D := D) (ci := 5) (C := RX6) (T := TX6) (N := 8) hx hb hts hi6 hown hK hP 0 rfl rfl 7 (by decide) (hts (.fieldLink RX6 28 "ButterflyYardModel" "thrown" "I") (by decide +kernel)) (fun _ h9 => h9) rfl dX6_append_50 ?_
  refine z_if_eq (tgt := 58) hx hb dX6_append_53 (by decide) (by omega) (fun c_53 => absurd c_53 (by omega)) (fun c_53 => ?_)
  refine z_iconst hx hb dX6_append_56 ?_
  exact z_iret hx hb hr hlocks rfl () (rfl) (trivial) hP hD hS dX6_append_57

set_option maxHeartbeats 4000000 in
set_option maxRecDepth 100000 in
theorem c_X6_append_ok (l : Launch) (D : va_G) (cI : ClassId) (h0 : Nat) (ae : Nat) (al : Nat) (ap : Nat) (az : Nat) (ar : Nat) (am : Nat) (np : Int) (th : Int) (xe : Int → Int) (xl : Int → Int) (r : Int) (x : Int) (ha_r : -2147483648 ≤ r ∧ r ≤ 2147483647) (ha_x : -2147483648 ≤ x ∧ x ≤ 2147483647) (hr_r : 0 ≤ r ∧ r < 4) (hv : -9999 ≤ x ∧ x ≤ 9999) (hl_ : 0 ≤ xl r ∧ xl r < 64) : zC l yX6_append wsX6_append ({ frames := 1, cells := 0, slots := 0, locals := 20 } : Room) D [(cI, .int)] [(h0, .inr (5, [.ref ae, .ref al, .ref ap, .ref az, .ref ar, .int (zI np), .ref am, .int (zI th)])), (ae, .inl (cI, 256, .inl (zA xe))), (al, .inl (cI, 4, .inl (zA xl)))] [] [.ref h0, .int (zI r), .int (zI x)] (S := Unit) (fun u => True) (fun u => some (.int (zI (xl r + 1)))) (fun u => [(h0, .inr (5, [.ref ae, .ref al, .ref ap, .ref az, .ref ar, .int (zI np), .ref am, .int (zI 0)])), (ae, .inl (cI, 256, .inl (zA (zU xe (64 * r + xl r) x)))), (al, .inl (cI, 4, .inl (zA (zU xl r (xl r + 1)))))]) := by
  refine z_start (cc := cX6_append) (maxL := 3) (ret := (some .int)) (own := RX6) (by decide) rfl rfl (Nat.le_of_ble_eq_true rfl) [(0, .ref h0), (1, .int (zI r)), (2, .int (zI x))] rfl ?_
  intro pp ee s mm below meth cc A H ls hx hb hr hml hts hown hlocks hin hK hA hP hD hS hR0 hR hl
  have CF : CallFix pp mm cc cX6_append 3 s ([.ref h0, .int (zI r), .int (zI x)] : List Value).toArray wsX6_append RX6 := ⟨hx, hb, hml, hown, hts⟩
  have hi6 : ∀ w ∈ wsX60, w ∈ wsX6_append := by decide +kernel
  refine lv_aload_n hx hb dX6_append_0 rfl (lv_at hl 0 rfl) ?_
  refine lv_iload_n hx hb dX6_append_1 rfl (lv_at hl 1 rfl) ?_
  have hRc : va_P D vwCl [] H := z_nilP
  refine z_ro (ws := [(h0, .inr (5, [.ref ae, .ref al, .ref ap, .ref az, .ref ar, .int (zI np), .ref am, .int (zI th)])), (ae, .inl (cI, 256, .inl (zA xe))), (al, .inl (cI, 4, .inl (zA xl)))]) (va_runS (As := [.int (zI r)]) (rest := [.ref h0]) CF (c_X6_isRow l D r (by omega) H.size) (va_cwS 1 hts gX6_append_X6_isRow rfl rfl rfl (by decide +kernel) ⟨Nat.le_of_ble_eq_true rfl, Nat.le_of_ble_eq_true rfl⟩) (z_preS z_nilP (z_nilD (A := A)) hRc z_noX (hK.sub (tys' := []) [] rfl)) rfl rfl hl.1 rfl (lv_room (Nat.le_of_ble_eq_true rfl)) dX6_append_2 ⟨Nat.le_of_ble_eq_true rfl, Nat.le_of_ble_eq_true rfl⟩) hP hS hA (cells' := 0) (slots' := 0) rfl rfl (fun H locs hP hS => ?_)
  refine z_ifB_ne (tgt := 12) hx hb dX6_append_5 (by decide) (fun c_5 => ?_) (fun c_5 => absurd c_5 (by omega))
  refine lv_iload_n hx hb dX6_append_12 rfl (lv_at hl 2 rfl) ?_
  refine z_sipush hx hb dX6_append_13 (by decide) ?_
  refine z_icmp_lt (tgt := 26) hx hb dX6_append_16 (by decide) (by omega) (fun c_16 => absurd c_16 (by omega)) (fun c_16 => ?_)
  refine lv_iload_n hx hb dX6_append_19 rfl (lv_at hl 2 rfl) ?_
  refine z_sipush hx hb dX6_append_20 (by decide) ?_
  refine z_icmp_le (tgt := 30) hx hb dX6_append_23 (by decide) (by omega) (fun c_23 => ?_) (fun c_23 => absurd c_23 (by omega))
  refine lv_aload_n hx hb dX6_append_30 rfl (lv_at hl 0 rfl) ?_
  refine va_get (D := D) (ci := 5) (C := RX6) (T := TX6) (N := 8) hx hb hts hi6 hown hK hP 0 rfl rfl 1 (by decide) (hts (.fieldLink RX6 13 "ButterflyYardModel" "lengths" "[I") (by decide +kernel)) (fun _ h9 => h9) rfl dX6_append_31 ?_
  refine lv_iload_n hx hb dX6_append_34 rfl (lv_at hl 1 rfl) ?_
  refine z_iald (cA := cI) (n := 4) (g := xl) hx hb hK hP 2 0 rfl rfl rfl (by omega) dX6_append_35 ?_
  refine z_bipush hx hb dX6_append_36 (by decide) ?_
  refine z_icmp_ne (tgt := 45) hx hb dX6_append_38 (by decide) (by omega) (fun c_38 => ?_) (fun c_38 => absurd c_38 (by omega))
  refine z_iconst hx hb dX6_append_45 ?_
  refine va_put (D := D) (ci := 5) (v := .int (zI 0)) (ty := .int) (C := RX6) (T := TX6) (N := 8) hx hb hts hi6 tyX6 tyX6_ok nmX6 hown hK hP hD hS 0 rfl rfl 7 (by decide) (hts (.fieldLink RX6 28 "ButterflyYardModel" "thrown" "I") (by decide +kernel)) (fun _ h9 => h9) rfl (by decide +kernel) rfl rfl (Nat.le_of_ble_eq_true rfl) dX6_append_46 (fun H locs hP hD hS => ?_)
  have hP : va_P D vwCl [(h0, .inr (5, [.ref ae, .ref al, .ref ap, .ref az, .ref ar, .int (zI np), .ref am, .int (zI 0)])), (ae, .inl (cI, 256, .inl (zA xe))), (al, .inl (cI, 4, .inl (zA xl)))] H := hP
  have hD : va_D A [(h0, .inr (5, [.ref ae, .ref al, .ref ap, .ref az, .ref ar, .int (zI np), .ref am, .int (zI 0)])), (ae, .inl (cI, 256, .inl (zA xe))), (al, .inl (cI, 4, .inl (zA xl)))] := hD
  refine lv_aload_n hx hb dX6_append_49 rfl (lv_at hl 0 rfl) ?_
  refine va_get (D := D) (ci := 5) (C := RX6) (T := TX6) (N := 8) hx hb hts hi6 hown hK hP 0 rfl rfl 7 (by decide) (hts (.fieldLink RX6 28 "ButterflyYardModel" "thrown" "I") (by decide +kernel)) (fun _ h9 => h9) rfl dX6_append_50 ?_
  refine z_if_eq (tgt := 58) hx hb dX6_append_53 (by decide) (by omega) (fun c_53 => ?_) (fun c_53 => absurd c_53 (by omega))
  refine lv_aload_n hx hb dX6_append_58 rfl (lv_at hl 0 rfl) ?_
  refine va_get (D := D) (ci := 5) (C := RX6) (T := TX6) (N := 8) hx hb hts hi6 hown hK hP 0 rfl rfl 0 (by decide) (hts (.fieldLink RX6 7 "ButterflyYardModel" "entries" "[I") (by decide +kernel)) (fun _ h9 => h9) rfl dX6_append_59 ?_
  refine z_bipush hx hb dX6_append_62 (by decide) ?_
  refine lv_iload_n hx hb dX6_append_64 rfl (lv_at hl 1 rfl) ?_
  refine z_imul hx hb dX6_append_65 ?_
  refine lv_aload_n hx hb dX6_append_66 rfl (lv_at hl 0 rfl) ?_
  refine va_get (D := D) (ci := 5) (C := RX6) (T := TX6) (N := 8) hx hb hts hi6 hown hK hP 0 rfl rfl 1 (by decide) (hts (.fieldLink RX6 13 "ButterflyYardModel" "lengths" "[I") (by decide +kernel)) (fun _ h9 => h9) rfl dX6_append_67 ?_
  refine lv_iload_n hx hb dX6_append_70 rfl (lv_at hl 1 rfl) ?_
  refine z_iald (cA := cI) (n := 4) (g := xl) hx hb hK hP 2 0 rfl rfl rfl (by omega) dX6_append_71 ?_
  refine z_iadd hx hb dX6_append_72 ?_
  refine lv_iload_n hx hb dX6_append_73 rfl (lv_at hl 2 rfl) ?_
  refine z_iast (cA := cI) (n := 256) (g := xe) (i := (64 * r) + (xl r)) (v := x) hx hb hK hP hD hS 1 0 rfl rfl rfl (by omega) dX6_append_74 (fun H locs hP hD hS => ?_)
  have hP : va_P D vwCl [(h0, .inr (5, [.ref ae, .ref al, .ref ap, .ref az, .ref ar, .int (zI np), .ref am, .int (zI 0)])), (ae, .inl (cI, 256, .inl (zA (zU xe ((64 * r) + (xl r)) x)))), (al, .inl (cI, 4, .inl (zA xl)))] H := hP
  have hD : va_D A [(h0, .inr (5, [.ref ae, .ref al, .ref ap, .ref az, .ref ar, .int (zI np), .ref am, .int (zI 0)])), (ae, .inl (cI, 256, .inl (zA (zU xe ((64 * r) + (xl r)) x)))), (al, .inl (cI, 4, .inl (zA xl)))] := hD
  refine lv_aload_n hx hb dX6_append_75 rfl (lv_at hl 0 rfl) ?_
  refine va_get (D := D) (ci := 5) (C := RX6) (T := TX6) (N := 8) hx hb hts hi6 hown hK hP 0 rfl rfl 1 (by decide) (hts (.fieldLink RX6 13 "ButterflyYardModel" "lengths" "[I") (by decide +kernel)) (fun _ h9 => h9) rfl dX6_append_76 ?_
  refine lv_iload_n hx hb dX6_append_79 rfl (lv_at hl 1 rfl) ?_
  refine lv_dup2_11 hx hb dX6_append_80 rfl rfl ?_
  refine z_iald (cA := cI) (n := 4) (g := xl) hx hb hK hP 2 0 rfl rfl rfl (by omega) dX6_append_81 ?_
  refine z_iconst hx hb dX6_append_82 ?_
  refine z_iadd hx hb dX6_append_83 ?_
  refine z_iast (cA := cI) (n := 4) (g := xl) (i := r) (v := (xl r) + 1) hx hb hK hP hD hS 2 0 rfl rfl rfl (by omega) dX6_append_84 (fun H locs hP hD hS => ?_)
  have hP : va_P D vwCl [(h0, .inr (5, [.ref ae, .ref al, .ref ap, .ref az, .ref ar, .int (zI np), .ref am, .int (zI 0)])), (ae, .inl (cI, 256, .inl (zA (zU xe ((64 * r) + (xl r)) x)))), (al, .inl (cI, 4, .inl (zA (zU xl r ((xl r) + 1)))))] H := hP
  have hD : va_D A [(h0, .inr (5, [.ref ae, .ref al, .ref ap, .ref az, .ref ar, .int (zI np), .ref am, .int (zI 0)])), (ae, .inl (cI, 256, .inl (zA (zU xe ((64 * r) + (xl r)) x)))), (al, .inl (cI, 4, .inl (zA (zU xl r ((xl r) + 1)))))] := hD
  refine lv_aload_n hx hb dX6_append_85 rfl (lv_at hl 0 rfl) ?_
  refine va_get (D := D) (ci := 5) (C := RX6) (T := TX6) (N := 8) hx hb hts hi6 hown hK hP 0 rfl rfl 1 (by decide) (hts (.fieldLink RX6 13 "ButterflyYardModel" "lengths" "[I") (by decide +kernel)) (fun _ h9 => h9) rfl dX6_append_86 ?_
  refine lv_iload_n hx hb dX6_append_89 rfl (lv_at hl 1 rfl) ?_
  refine z_iald (cA := cI) (n := 4) (g := zU xl r ((xl r) + 1)) hx hb hK hP 2 0 rfl rfl rfl (by omega) dX6_append_90 ?_
  have hres : xl r + 1 = (zU xl r ((xl r) + 1)) r := by rw [zU_s]
  exact z_iret hx hb hr hlocks rfl () (congrArg (fun z => some (Value.int (zI z))) hres) (trivial) hP hD hS dX6_append_91

set_option maxHeartbeats 4000000 in
set_option maxRecDepth 100000 in
theorem c_X6_clear_1 (l : Launch) (D : va_G) (cI : ClassId) (h0 : Nat) (ae : Nat) (al : Nat) (ap : Nat) (az : Nat) (ar : Nat) (am : Nat) (np : Int) (th : Int) (r : Int) (ha_r : -2147483648 ≤ r ∧ r ≤ 2147483647) (hb_r : ¬ (0 ≤ r ∧ r < 4)) : zC l yX6_clear wsX6_clear ({ frames := 1, cells := 0, slots := 0, locals := 20 } : Room) D [(cI, .int)] [(h0, .inr (5, [.ref ae, .ref al, .ref ap, .ref az, .ref ar, .int (zI np), .ref am, .int (zI th)]))] [] [.ref h0, .int (zI r)] (S := Unit) (fun u => True) (fun u => some (.int (zI 0))) (fun u => [(h0, .inr (5, [.ref ae, .ref al, .ref ap, .ref az, .ref ar, .int (zI np), .ref am, .int (zI 1)]))]) := by
  refine z_start (cc := cX6_clear) (maxL := 3) (ret := (some .int)) (own := RX6) (by decide) rfl rfl (Nat.le_of_ble_eq_true rfl) [(0, .ref h0), (1, .int (zI r))] rfl ?_
  intro pp ee s mm below meth cc A H ls hx hb hr hml hts hown hlocks hin hK hA hP hD hS hR0 hR hl
  have CF : CallFix pp mm cc cX6_clear 3 s ([.ref h0, .int (zI r)] : List Value).toArray wsX6_clear RX6 := ⟨hx, hb, hml, hown, hts⟩
  have hi6 : ∀ w ∈ wsX60, w ∈ wsX6_clear := by decide +kernel
  refine lv_aload_n hx hb dX6_clear_0 rfl (lv_at hl 0 rfl) ?_
  refine lv_iload_n hx hb dX6_clear_1 rfl (lv_at hl 1 rfl) ?_
  have hRc : va_P D vwCl [] H := z_nilP
  refine z_ro (ws := [(h0, .inr (5, [.ref ae, .ref al, .ref ap, .ref az, .ref ar, .int (zI np), .ref am, .int (zI th)]))]) (va_runS (As := [.int (zI r)]) (rest := [.ref h0]) CF (c_X6_isRow l D r (by omega) H.size) (va_cwS 1 hts gX6_clear_X6_isRow rfl rfl rfl (by decide +kernel) ⟨Nat.le_of_ble_eq_true rfl, Nat.le_of_ble_eq_true rfl⟩) (z_preS z_nilP (z_nilD (A := A)) hRc z_noX (hK.sub (tys' := []) [] rfl)) rfl rfl hl.1 rfl (lv_room (Nat.le_of_ble_eq_true rfl)) dX6_clear_2 ⟨Nat.le_of_ble_eq_true rfl, Nat.le_of_ble_eq_true rfl⟩) hP hS hA (cells' := 0) (slots' := 0) rfl rfl (fun H locs hP hS => ?_)
  refine z_ifB_eq (tgt := 12) hx hb dX6_clear_5 (by decide) (fun c_5 => ?_) (fun c_5 => absurd c_5 (by omega))
  refine z_iconst hx hb dX6_clear_12 ?_
  refine va_put (D := D) (ci := 5) (v := .int (zI 1)) (ty := .int) (C := RX6) (T := TX6) (N := 8) hx hb hts hi6 tyX6 tyX6_ok nmX6 hown hK hP hD hS 0 rfl rfl 7 (by decide) (hts (.fieldLink RX6 28 "ButterflyYardModel" "thrown" "I") (by decide +kernel)) (fun _ h9 => h9) rfl (by decide +kernel) rfl rfl (Nat.le_of_ble_eq_true rfl) dX6_clear_13 (fun H locs hP hD hS => ?_)
  have hP : va_P D vwCl [(h0, .inr (5, [.ref ae, .ref al, .ref ap, .ref az, .ref ar, .int (zI np), .ref am, .int (zI 1)]))] H := hP
  have hD : va_D A [(h0, .inr (5, [.ref ae, .ref al, .ref ap, .ref az, .ref ar, .int (zI np), .ref am, .int (zI 1)]))] := hD
  refine lv_aload_n hx hb dX6_clear_16 rfl (lv_at hl 0 rfl) ?_
  refine va_get (D := D) (ci := 5) (C := RX6) (T := TX6) (N := 8) hx hb hts hi6 hown hK hP 0 rfl rfl 7 (by decide) (hts (.fieldLink RX6 28 "ButterflyYardModel" "thrown" "I") (by decide +kernel)) (fun _ h9 => h9) rfl dX6_clear_17 ?_
  refine z_if_eq (tgt := 25) hx hb dX6_clear_20 (by decide) (by omega) (fun c_20 => absurd c_20 (by omega)) (fun c_20 => ?_)
  refine z_iconst hx hb dX6_clear_23 ?_
  exact z_iret hx hb hr hlocks rfl () (rfl) (trivial) hP hD hS dX6_clear_24

set_option maxHeartbeats 4000000 in
set_option maxRecDepth 100000 in
theorem c_X6_clear_ok (l : Launch) (D : va_G) (cI : ClassId) (h0 : Nat) (ae : Nat) (al : Nat) (ap : Nat) (az : Nat) (ar : Nat) (am : Nat) (np : Int) (th : Int) (xl : Int → Int) (r : Int) (ha_r : -2147483648 ≤ r ∧ r ≤ 2147483647) (hr_r : 0 ≤ r ∧ r < 4) : zC l yX6_clear wsX6_clear ({ frames := 1, cells := 0, slots := 0, locals := 20 } : Room) D [(cI, .int)] [(h0, .inr (5, [.ref ae, .ref al, .ref ap, .ref az, .ref ar, .int (zI np), .ref am, .int (zI th)])), (al, .inl (cI, 4, .inl (zA xl)))] [] [.ref h0, .int (zI r)] (S := Unit) (fun u => True) (fun u => some (.int (zI (xl r)))) (fun u => [(h0, .inr (5, [.ref ae, .ref al, .ref ap, .ref az, .ref ar, .int (zI np), .ref am, .int (zI 0)])), (al, .inl (cI, 4, .inl (zA (zU xl r 0))))]) := by
  refine z_start (cc := cX6_clear) (maxL := 3) (ret := (some .int)) (own := RX6) (by decide) rfl rfl (Nat.le_of_ble_eq_true rfl) [(0, .ref h0), (1, .int (zI r))] rfl ?_
  intro pp ee s mm below meth cc A H ls hx hb hr hml hts hown hlocks hin hK hA hP hD hS hR0 hR hl
  have CF : CallFix pp mm cc cX6_clear 3 s ([.ref h0, .int (zI r)] : List Value).toArray wsX6_clear RX6 := ⟨hx, hb, hml, hown, hts⟩
  have hi6 : ∀ w ∈ wsX60, w ∈ wsX6_clear := by decide +kernel
  refine lv_aload_n hx hb dX6_clear_0 rfl (lv_at hl 0 rfl) ?_
  refine lv_iload_n hx hb dX6_clear_1 rfl (lv_at hl 1 rfl) ?_
  have hRc : va_P D vwCl [] H := z_nilP
  refine z_ro (ws := [(h0, .inr (5, [.ref ae, .ref al, .ref ap, .ref az, .ref ar, .int (zI np), .ref am, .int (zI th)])), (al, .inl (cI, 4, .inl (zA xl)))]) (va_runS (As := [.int (zI r)]) (rest := [.ref h0]) CF (c_X6_isRow l D r (by omega) H.size) (va_cwS 1 hts gX6_clear_X6_isRow rfl rfl rfl (by decide +kernel) ⟨Nat.le_of_ble_eq_true rfl, Nat.le_of_ble_eq_true rfl⟩) (z_preS z_nilP (z_nilD (A := A)) hRc z_noX (hK.sub (tys' := []) [] rfl)) rfl rfl hl.1 rfl (lv_room (Nat.le_of_ble_eq_true rfl)) dX6_clear_2 ⟨Nat.le_of_ble_eq_true rfl, Nat.le_of_ble_eq_true rfl⟩) hP hS hA (cells' := 0) (slots' := 0) rfl rfl (fun H locs hP hS => ?_)
  refine z_ifB_eq (tgt := 12) hx hb dX6_clear_5 (by decide) (fun c_5 => absurd c_5 (by omega)) (fun c_5 => ?_)
  refine z_iconst hx hb dX6_clear_8 ?_
  refine lv_goto (tgt := 13) hx hb dX6_clear_9 (by decide) ?_
  refine va_put (D := D) (ci := 5) (v := .int (zI 0)) (ty := .int) (C := RX6) (T := TX6) (N := 8) hx hb hts hi6 tyX6 tyX6_ok nmX6 hown hK hP hD hS 0 rfl rfl 7 (by decide) (hts (.fieldLink RX6 28 "ButterflyYardModel" "thrown" "I") (by decide +kernel)) (fun _ h9 => h9) rfl (by decide +kernel) rfl rfl (Nat.le_of_ble_eq_true rfl) dX6_clear_13 (fun H locs hP hD hS => ?_)
  have hP : va_P D vwCl [(h0, .inr (5, [.ref ae, .ref al, .ref ap, .ref az, .ref ar, .int (zI np), .ref am, .int (zI 0)])), (al, .inl (cI, 4, .inl (zA xl)))] H := hP
  have hD : va_D A [(h0, .inr (5, [.ref ae, .ref al, .ref ap, .ref az, .ref ar, .int (zI np), .ref am, .int (zI 0)])), (al, .inl (cI, 4, .inl (zA xl)))] := hD
  refine lv_aload_n hx hb dX6_clear_16 rfl (lv_at hl 0 rfl) ?_
  refine va_get (D := D) (ci := 5) (C := RX6) (T := TX6) (N := 8) hx hb hts hi6 hown hK hP 0 rfl rfl 7 (by decide) (hts (.fieldLink RX6 28 "ButterflyYardModel" "thrown" "I") (by decide +kernel)) (fun _ h9 => h9) rfl dX6_clear_17 ?_
  refine z_if_eq (tgt := 25) hx hb dX6_clear_20 (by decide) (by omega) (fun c_20 => ?_) (fun c_20 => absurd c_20 (by omega))
  refine lv_aload_n hx hb dX6_clear_25 rfl (lv_at hl 0 rfl) ?_
  refine va_get (D := D) (ci := 5) (C := RX6) (T := TX6) (N := 8) hx hb hts hi6 hown hK hP 0 rfl rfl 1 (by decide) (hts (.fieldLink RX6 13 "ButterflyYardModel" "lengths" "[I") (by decide +kernel)) (fun _ h9 => h9) rfl dX6_clear_26 ?_
  refine lv_iload_n hx hb dX6_clear_29 rfl (lv_at hl 1 rfl) ?_
  refine z_iald (cA := cI) (n := 4) (g := xl) hx hb hK hP 1 0 rfl rfl rfl (by omega) dX6_clear_30 ?_
  refine lv_istore_n (lv' := [(2, .int (zI (xl r))), (0, .ref h0), (1, .int (zI r))]) hx hb dX6_clear_31 rfl hl (by decide) rfl (fun ls hl => ?_)
  have hl := lv_sub hl [1, 2, 0] rfl
  have hl : lv_has ls 3 [(0, .ref h0), (1, .int (zI r)), (2, .int (zI (xl r)))] := hl
  refine lv_aload_n hx hb dX6_clear_32 rfl (lv_at hl 0 rfl) ?_
  refine va_get (D := D) (ci := 5) (C := RX6) (T := TX6) (N := 8) hx hb hts hi6 hown hK hP 0 rfl rfl 1 (by decide) (hts (.fieldLink RX6 13 "ButterflyYardModel" "lengths" "[I") (by decide +kernel)) (fun _ h9 => h9) rfl dX6_clear_33 ?_
  refine lv_iload_n hx hb dX6_clear_36 rfl (lv_at hl 1 rfl) ?_
  refine z_iconst hx hb dX6_clear_37 ?_
  refine z_iast (cA := cI) (n := 4) (g := xl) (i := r) (v := 0) hx hb hK hP hD hS 1 0 rfl rfl rfl (by omega) dX6_clear_38 (fun H locs hP hD hS => ?_)
  have hP : va_P D vwCl [(h0, .inr (5, [.ref ae, .ref al, .ref ap, .ref az, .ref ar, .int (zI np), .ref am, .int (zI 0)])), (al, .inl (cI, 4, .inl (zA (zU xl r 0))))] H := hP
  have hD : va_D A [(h0, .inr (5, [.ref ae, .ref al, .ref ap, .ref az, .ref ar, .int (zI np), .ref am, .int (zI 0)])), (al, .inl (cI, 4, .inl (zA (zU xl r 0))))] := hD
  refine lv_iload_n hx hb dX6_clear_39 rfl (lv_at hl 2 rfl) ?_
  exact z_iret hx hb hr hlocks rfl () (rfl) (trivial) hP hD hS dX6_clear_40

set_option maxHeartbeats 4000000 in
set_option maxRecDepth 100000 in
theorem c_X6_copy_1a (l : Launch) (D : va_G) (cI : ClassId) (h0 : Nat) (ae : Nat) (al : Nat) (ap : Nat) (az : Nat) (ar : Nat) (am : Nat) (np : Int) (th : Int) (r : Int) (t : Int) (ha_r : -2147483648 ≤ r ∧ r ≤ 2147483647) (ha_t : -2147483648 ≤ t ∧ t ≤ 2147483647) (hb_r : ¬ (0 ≤ r ∧ r < 4)) : zC l yX6_copy wsX6_copy ({ frames := 1, cells := 0, slots := 0, locals := 20 } : Room) D [(cI, .int)] [(h0, .inr (5, [.ref ae, .ref al, .ref ap, .ref az, .ref ar, .int (zI np), .ref am, .int (zI th)]))] [] [.ref h0, .int (zI r), .int (zI t)] (S := Unit) (fun u => True) (fun u => some (.int (zI 0))) (fun u => [(h0, .inr (5, [.ref ae, .ref al, .ref ap, .ref az, .ref ar, .int (zI np), .ref am, .int (zI 1)]))]) := by
  refine z_start (cc := cX6_copy) (maxL := 4) (ret := (some .int)) (own := RX6) (by decide) rfl rfl (Nat.le_of_ble_eq_true rfl) [(0, .ref h0), (1, .int (zI r)), (2, .int (zI t))] rfl ?_
  intro pp ee s mm below meth cc A H ls hx hb hr hml hts hown hlocks hin hK hA hP hD hS hR0 hR hl
  have CF : CallFix pp mm cc cX6_copy 4 s ([.ref h0, .int (zI r), .int (zI t)] : List Value).toArray wsX6_copy RX6 := ⟨hx, hb, hml, hown, hts⟩
  have hi6 : ∀ w ∈ wsX60, w ∈ wsX6_copy := by decide +kernel
  refine lv_aload_n hx hb dX6_copy_0 rfl (lv_at hl 0 rfl) ?_
  refine lv_iload_n hx hb dX6_copy_1 rfl (lv_at hl 1 rfl) ?_
  have hRc : va_P D vwCl [] H := z_nilP
  refine z_ro (ws := [(h0, .inr (5, [.ref ae, .ref al, .ref ap, .ref az, .ref ar, .int (zI np), .ref am, .int (zI th)]))]) (va_runS (As := [.int (zI r)]) (rest := [.ref h0]) CF (c_X6_isRow l D r (by omega) H.size) (va_cwS 1 hts gX6_copy_X6_isRow rfl rfl rfl (by decide +kernel) ⟨Nat.le_of_ble_eq_true rfl, Nat.le_of_ble_eq_true rfl⟩) (z_preS z_nilP (z_nilD (A := A)) hRc z_noX (hK.sub (tys' := []) [] rfl)) rfl rfl hl.1 rfl (lv_room (Nat.le_of_ble_eq_true rfl)) dX6_copy_2 ⟨Nat.le_of_ble_eq_true rfl, Nat.le_of_ble_eq_true rfl⟩) hP hS hA (cells' := 0) (slots' := 0) rfl rfl (fun H locs hP hS => ?_)
  refine z_ifB_eq (tgt := 19) hx hb dX6_copy_5 (by decide) (fun c_5 => ?_) (fun c_5 => absurd c_5 (by omega))
  refine z_iconst hx hb dX6_copy_19 ?_
  refine va_put (D := D) (ci := 5) (v := .int (zI 1)) (ty := .int) (C := RX6) (T := TX6) (N := 8) hx hb hts hi6 tyX6 tyX6_ok nmX6 hown hK hP hD hS 0 rfl rfl 7 (by decide) (hts (.fieldLink RX6 28 "ButterflyYardModel" "thrown" "I") (by decide +kernel)) (fun _ h9 => h9) rfl (by decide +kernel) rfl rfl (Nat.le_of_ble_eq_true rfl) dX6_copy_20 (fun H locs hP hD hS => ?_)
  have hP : va_P D vwCl [(h0, .inr (5, [.ref ae, .ref al, .ref ap, .ref az, .ref ar, .int (zI np), .ref am, .int (zI 1)]))] H := hP
  have hD : va_D A [(h0, .inr (5, [.ref ae, .ref al, .ref ap, .ref az, .ref ar, .int (zI np), .ref am, .int (zI 1)]))] := hD
  refine lv_aload_n hx hb dX6_copy_23 rfl (lv_at hl 0 rfl) ?_
  refine va_get (D := D) (ci := 5) (C := RX6) (T := TX6) (N := 8) hx hb hts hi6 hown hK hP 0 rfl rfl 7 (by decide) (hts (.fieldLink RX6 28 "ButterflyYardModel" "thrown" "I") (by decide +kernel)) (fun _ h9 => h9) rfl dX6_copy_24 ?_
  refine z_if_eq (tgt := 32) hx hb dX6_copy_27 (by decide) (by omega) (fun c_27 => absurd c_27 (by omega)) (fun c_27 => ?_)
  refine z_iconst hx hb dX6_copy_30 ?_
  exact z_iret hx hb hr hlocks rfl () (rfl) (trivial) hP hD hS dX6_copy_31

set_option maxHeartbeats 4000000 in
set_option maxRecDepth 100000 in
theorem c_X6_copy_1b (l : Launch) (D : va_G) (cI : ClassId) (h0 : Nat) (ae : Nat) (al : Nat) (ap : Nat) (az : Nat) (ar : Nat) (am : Nat) (np : Int) (th : Int) (r : Int) (t : Int) (ha_r : -2147483648 ≤ r ∧ r ≤ 2147483647) (ha_t : -2147483648 ≤ t ∧ t ≤ 2147483647) (hr_r : 0 ≤ r ∧ r < 4) (hb_t : ¬ (0 ≤ t ∧ t < 4)) : zC l yX6_copy wsX6_copy ({ frames := 1, cells := 0, slots := 0, locals := 20 } : Room) D [(cI, .int)] [(h0, .inr (5, [.ref ae, .ref al, .ref ap, .ref az, .ref ar, .int (zI np), .ref am, .int (zI th)]))] [] [.ref h0, .int (zI r), .int (zI t)] (S := Unit) (fun u => True) (fun u => some (.int (zI 0))) (fun u => [(h0, .inr (5, [.ref ae, .ref al, .ref ap, .ref az, .ref ar, .int (zI np), .ref am, .int (zI 1)]))]) := by
  refine z_start (cc := cX6_copy) (maxL := 4) (ret := (some .int)) (own := RX6) (by decide) rfl rfl (Nat.le_of_ble_eq_true rfl) [(0, .ref h0), (1, .int (zI r)), (2, .int (zI t))] rfl ?_
  intro pp ee s mm below meth cc A H ls hx hb hr hml hts hown hlocks hin hK hA hP hD hS hR0 hR hl
  have CF : CallFix pp mm cc cX6_copy 4 s ([.ref h0, .int (zI r), .int (zI t)] : List Value).toArray wsX6_copy RX6 := ⟨hx, hb, hml, hown, hts⟩
  have hi6 : ∀ w ∈ wsX60, w ∈ wsX6_copy := by decide +kernel
  refine lv_aload_n hx hb dX6_copy_0 rfl (lv_at hl 0 rfl) ?_
  refine lv_iload_n hx hb dX6_copy_1 rfl (lv_at hl 1 rfl) ?_
  have hRc : va_P D vwCl [] H := z_nilP
  refine z_ro (ws := [(h0, .inr (5, [.ref ae, .ref al, .ref ap, .ref az, .ref ar, .int (zI np), .ref am, .int (zI th)]))]) (va_runS (As := [.int (zI r)]) (rest := [.ref h0]) CF (c_X6_isRow l D r (by omega) H.size) (va_cwS 1 hts gX6_copy_X6_isRow rfl rfl rfl (by decide +kernel) ⟨Nat.le_of_ble_eq_true rfl, Nat.le_of_ble_eq_true rfl⟩) (z_preS z_nilP (z_nilD (A := A)) hRc z_noX (hK.sub (tys' := []) [] rfl)) rfl rfl hl.1 rfl (lv_room (Nat.le_of_ble_eq_true rfl)) dX6_copy_2 ⟨Nat.le_of_ble_eq_true rfl, Nat.le_of_ble_eq_true rfl⟩) hP hS hA (cells' := 0) (slots' := 0) rfl rfl (fun H locs hP hS => ?_)
  refine z_ifB_eq (tgt := 19) hx hb dX6_copy_5 (by decide) (fun c_5 => absurd c_5 (by omega)) (fun c_5 => ?_)
  refine lv_iload_n hx hb dX6_copy_8 rfl (lv_at hl 2 rfl) ?_
  have hRc : va_P D vwCl [] H := z_nilP
  refine z_ro (ws := [(h0, .inr (5, [.ref ae, .ref al, .ref ap, .ref az, .ref ar, .int (zI np), .ref am, .int (zI th)]))]) (va_runS (As := [.int (zI t)]) (rest := [.ref h0]) CF (c_X6_isRow l D t (by omega) H.size) (va_cwS 1 hts gX6_copy_X6_isRow rfl rfl rfl (by decide +kernel) ⟨Nat.le_of_ble_eq_true rfl, Nat.le_of_ble_eq_true rfl⟩) (z_preS z_nilP (z_nilD (A := A)) hRc z_noX (hK.sub (tys' := []) [] rfl)) rfl rfl hl.1 rfl (lv_room (Nat.le_of_ble_eq_true rfl)) dX6_copy_9 ⟨Nat.le_of_ble_eq_true rfl, Nat.le_of_ble_eq_true rfl⟩) hP hS hA (cells' := 0) (slots' := 0) rfl rfl (fun H locs hP hS => ?_)
  refine z_ifB_eq (tgt := 19) hx hb dX6_copy_12 (by decide) (fun c_12 => ?_) (fun c_12 => absurd c_12 (by omega))
  refine z_iconst hx hb dX6_copy_19 ?_
  refine va_put (D := D) (ci := 5) (v := .int (zI 1)) (ty := .int) (C := RX6) (T := TX6) (N := 8) hx hb hts hi6 tyX6 tyX6_ok nmX6 hown hK hP hD hS 0 rfl rfl 7 (by decide) (hts (.fieldLink RX6 28 "ButterflyYardModel" "thrown" "I") (by decide +kernel)) (fun _ h9 => h9) rfl (by decide +kernel) rfl rfl (Nat.le_of_ble_eq_true rfl) dX6_copy_20 (fun H locs hP hD hS => ?_)
  have hP : va_P D vwCl [(h0, .inr (5, [.ref ae, .ref al, .ref ap, .ref az, .ref ar, .int (zI np), .ref am, .int (zI 1)]))] H := hP
  have hD : va_D A [(h0, .inr (5, [.ref ae, .ref al, .ref ap, .ref az, .ref ar, .int (zI np), .ref am, .int (zI 1)]))] := hD
  refine lv_aload_n hx hb dX6_copy_23 rfl (lv_at hl 0 rfl) ?_
  refine va_get (D := D) (ci := 5) (C := RX6) (T := TX6) (N := 8) hx hb hts hi6 hown hK hP 0 rfl rfl 7 (by decide) (hts (.fieldLink RX6 28 "ButterflyYardModel" "thrown" "I") (by decide +kernel)) (fun _ h9 => h9) rfl dX6_copy_24 ?_
  refine z_if_eq (tgt := 32) hx hb dX6_copy_27 (by decide) (by omega) (fun c_27 => absurd c_27 (by omega)) (fun c_27 => ?_)
  refine z_iconst hx hb dX6_copy_30 ?_
  exact z_iret hx hb hr hlocks rfl () (rfl) (trivial) hP hD hS dX6_copy_31

set_option maxHeartbeats 4000000 in
set_option maxRecDepth 100000 in
theorem c_X6_copy_ok (l : Launch) (D : va_G) (cI : ClassId) (h0 : Nat) (ae : Nat) (al : Nat) (ap : Nat) (az : Nat) (ar : Nat) (am : Nat) (np : Int) (th : Int) (xe : Int → Int) (xl : Int → Int) (r : Int) (t : Int) (ha_r : -2147483648 ≤ r ∧ r ≤ 2147483647) (ha_t : -2147483648 ≤ t ∧ t ≤ 2147483647) (hr_r : 0 ≤ r ∧ r < 4) (hr_t : 0 ≤ t ∧ t < 4) (hxl_r : 0 ≤ xl r ∧ xl r ≤ 64) : zC l yX6_copy wsX6_copy ({ frames := 1, cells := 0, slots := 0, locals := 20 } : Room) D [(cI, .int)] [(h0, .inr (5, [.ref ae, .ref al, .ref ap, .ref az, .ref ar, .int (zI np), .ref am, .int (zI th)])), (ae, .inl (cI, 256, .inl (zA xe))), (al, .inl (cI, 4, .inl (zA xl)))] [] [.ref h0, .int (zI r), .int (zI t)] (S := Int → Int) (fun xe2 => (∀ k, 0 ≤ k → k < xl r → xe2 (64 * t + k) = xe (64 * r + k)) ∧ (∀ x, x < 64 * t ∨ 64 * t + xl r ≤ x → xe2 x = xe x)) (fun xe2 => some (.int (zI (xl r)))) (fun xe2 => [(h0, .inr (5, [.ref ae, .ref al, .ref ap, .ref az, .ref ar, .int (zI np), .ref am, .int (zI 0)])), (ae, .inl (cI, 256, .inl (zA xe2))), (al, .inl (cI, 4, .inl (zA (zU xl t (xl r)))))]) := by
  refine z_start (cc := cX6_copy) (maxL := 4) (ret := (some .int)) (own := RX6) (by decide) rfl rfl (Nat.le_of_ble_eq_true rfl) [(0, .ref h0), (1, .int (zI r)), (2, .int (zI t))] rfl ?_
  intro pp ee s mm below meth cc A H ls hx hb hr hml hts hown hlocks hin hK hA hP hD hS hR0 hR hl
  have CF : CallFix pp mm cc cX6_copy 4 s ([.ref h0, .int (zI r), .int (zI t)] : List Value).toArray wsX6_copy RX6 := ⟨hx, hb, hml, hown, hts⟩
  have hi6 : ∀ w ∈ wsX60, w ∈ wsX6_copy := by decide +kernel
  refine lv_aload_n hx hb dX6_copy_0 rfl (lv_at hl 0 rfl) ?_
  refine lv_iload_n hx hb dX6_copy_1 rfl (lv_at hl 1 rfl) ?_
  have hRc : va_P D vwCl [] H := z_nilP
  refine z_ro (ws := [(h0, .inr (5, [.ref ae, .ref al, .ref ap, .ref az, .ref ar, .int (zI np), .ref am, .int (zI th)])), (ae, .inl (cI, 256, .inl (zA xe))), (al, .inl (cI, 4, .inl (zA xl)))]) (va_runS (As := [.int (zI r)]) (rest := [.ref h0]) CF (c_X6_isRow l D r (by omega) H.size) (va_cwS 1 hts gX6_copy_X6_isRow rfl rfl rfl (by decide +kernel) ⟨Nat.le_of_ble_eq_true rfl, Nat.le_of_ble_eq_true rfl⟩) (z_preS z_nilP (z_nilD (A := A)) hRc z_noX (hK.sub (tys' := []) [] rfl)) rfl rfl hl.1 rfl (lv_room (Nat.le_of_ble_eq_true rfl)) dX6_copy_2 ⟨Nat.le_of_ble_eq_true rfl, Nat.le_of_ble_eq_true rfl⟩) hP hS hA (cells' := 0) (slots' := 0) rfl rfl (fun H locs hP hS => ?_)
  refine z_ifB_eq (tgt := 19) hx hb dX6_copy_5 (by decide) (fun c_5 => absurd c_5 (by omega)) (fun c_5 => ?_)
  refine lv_iload_n hx hb dX6_copy_8 rfl (lv_at hl 2 rfl) ?_
  have hRc : va_P D vwCl [] H := z_nilP
  refine z_ro (ws := [(h0, .inr (5, [.ref ae, .ref al, .ref ap, .ref az, .ref ar, .int (zI np), .ref am, .int (zI th)])), (ae, .inl (cI, 256, .inl (zA xe))), (al, .inl (cI, 4, .inl (zA xl)))]) (va_runS (As := [.int (zI t)]) (rest := [.ref h0]) CF (c_X6_isRow l D t (by omega) H.size) (va_cwS 1 hts gX6_copy_X6_isRow rfl rfl rfl (by decide +kernel) ⟨Nat.le_of_ble_eq_true rfl, Nat.le_of_ble_eq_true rfl⟩) (z_preS z_nilP (z_nilD (A := A)) hRc z_noX (hK.sub (tys' := []) [] rfl)) rfl rfl hl.1 rfl (lv_room (Nat.le_of_ble_eq_true rfl)) dX6_copy_9 ⟨Nat.le_of_ble_eq_true rfl, Nat.le_of_ble_eq_true rfl⟩) hP hS hA (cells' := 0) (slots' := 0) rfl rfl (fun H locs hP hS => ?_)
  refine z_ifB_eq (tgt := 19) hx hb dX6_copy_12 (by decide) (fun c_12 => absurd c_12 (by omega)) (fun c_12 => ?_)
  refine z_iconst hx hb dX6_copy_15 ?_
  refine lv_goto (tgt := 20) hx hb dX6_copy_16 (by decide) ?_
  refine va_put (D := D) (ci := 5) (v := .int (zI 0)) (ty := .int) (C := RX6) (T := TX6) (N := 8) hx hb hts hi6 tyX6 tyX6_ok nmX6 hown hK hP hD hS 0 rfl rfl 7 (by decide) (hts (.fieldLink RX6 28 "ButterflyYardModel" "thrown" "I") (by decide +kernel)) (fun _ h9 => h9) rfl (by decide +kernel) rfl rfl (Nat.le_of_ble_eq_true rfl) dX6_copy_20 (fun H locs hP hD hS => ?_)
  have hP : va_P D vwCl [(h0, .inr (5, [.ref ae, .ref al, .ref ap, .ref az, .ref ar, .int (zI np), .ref am, .int (zI 0)])), (ae, .inl (cI, 256, .inl (zA xe))), (al, .inl (cI, 4, .inl (zA xl)))] H := hP
  have hD : va_D A [(h0, .inr (5, [.ref ae, .ref al, .ref ap, .ref az, .ref ar, .int (zI np), .ref am, .int (zI 0)])), (ae, .inl (cI, 256, .inl (zA xe))), (al, .inl (cI, 4, .inl (zA xl)))] := hD
  refine lv_aload_n hx hb dX6_copy_23 rfl (lv_at hl 0 rfl) ?_
  refine va_get (D := D) (ci := 5) (C := RX6) (T := TX6) (N := 8) hx hb hts hi6 hown hK hP 0 rfl rfl 7 (by decide) (hts (.fieldLink RX6 28 "ButterflyYardModel" "thrown" "I") (by decide +kernel)) (fun _ h9 => h9) rfl dX6_copy_24 ?_
  refine z_if_eq (tgt := 32) hx hb dX6_copy_27 (by decide) (by omega) (fun c_27 => ?_) (fun c_27 => absurd c_27 (by omega))
  refine z_iconst hx hb dX6_copy_32 ?_
  refine lv_istore_n (lv' := [(3, .int (zI 0)), (0, .ref h0), (1, .int (zI r)), (2, .int (zI t))]) hx hb dX6_copy_33 rfl hl (by decide) rfl (fun ls hl => ?_)
  have hl := lv_sub hl [1, 2, 3, 0] rfl
  have hl : lv_has ls 4 [(0, .ref h0), (1, .int (zI r)), (2, .int (zI t)), (3, .int (zI 0))] := hl
  refine z_loop (σ := Int × (Int → Int)) (fun (i, xe2) => (xl r - i).toNat) (fun (i, xe2) H locs ls => (0 ≤ i ∧ i ≤ xl r) ∧ (∀ k, 0 ≤ k → k < i → xe2 (64 * t + k) = xe (64 * r + k)) ∧ (∀ x, x < 64 * t ∨ 64 * t + i ≤ x → xe2 x = xe x) ∧ va_P D vwCl [(h0, .inr (5, [.ref ae, .ref al, .ref ap, .ref az, .ref ar, .int (zI np), .ref am, .int (zI 0)])), (ae, .inl (cI, 256, .inl (zA xe2))), (al, .inl (cI, 4, .inl (zA xl)))] H ∧ va_D A [(h0, .inr (5, [.ref ae, .ref al, .ref ap, .ref az, .ref ar, .int (zI np), .ref am, .int (zI 0)])), (ae, .inl (cI, 256, .inl (zA xe2))), (al, .inl (cI, 4, .inl (zA xl)))] ∧ va_S A s.heap H locs ∧ lv_has ls 4 [(0, .ref h0), (1, .int (zI r)), (2, .int (zI t)), (3, .int (zI i))]) (0, xe) ⟨(by omega), (fun k h1 h2 => absurd h2 (by omega)), (fun x _ => rfl), hP, hD, hS, hl⟩ ?_
  intro ⟨i, xe2⟩ H locs ls hI ih_34
  obtain ⟨hi_, hf, hkp, hP, hD, hS, hl⟩ := hI
  refine lv_iload_n hx hb dX6_copy_34 rfl (lv_at hl 3 rfl) ?_
  refine lv_aload_n hx hb dX6_copy_35 rfl (lv_at hl 0 rfl) ?_
  refine va_get (D := D) (ci := 5) (C := RX6) (T := TX6) (N := 8) hx hb hts hi6 hown hK hP 0 rfl rfl 1 (by decide) (hts (.fieldLink RX6 13 "ButterflyYardModel" "lengths" "[I") (by decide +kernel)) (fun _ h9 => h9) rfl dX6_copy_36 ?_
  refine lv_iload_n hx hb dX6_copy_39 rfl (lv_at hl 1 rfl) ?_
  refine z_iald (cA := cI) (n := 4) (g := xl) hx hb hK hP 2 0 rfl rfl rfl (by omega) dX6_copy_40 ?_
  refine z_icmp_ge (tgt := 72) hx hb dX6_copy_41 (by decide) (by omega) (fun c_41 => ?_) (fun c_41 => ?_)
  · refine lv_aload_n hx hb dX6_copy_72 rfl (lv_at hl 0 rfl) ?_
    refine va_get (D := D) (ci := 5) (C := RX6) (T := TX6) (N := 8) hx hb hts hi6 hown hK hP 0 rfl rfl 1 (by decide) (hts (.fieldLink RX6 13 "ButterflyYardModel" "lengths" "[I") (by decide +kernel)) (fun _ h9 => h9) rfl dX6_copy_73 ?_
    refine lv_iload_n hx hb dX6_copy_76 rfl (lv_at hl 2 rfl) ?_
    refine lv_aload_n hx hb dX6_copy_77 rfl (lv_at hl 0 rfl) ?_
    refine va_get (D := D) (ci := 5) (C := RX6) (T := TX6) (N := 8) hx hb hts hi6 hown hK hP 0 rfl rfl 1 (by decide) (hts (.fieldLink RX6 13 "ButterflyYardModel" "lengths" "[I") (by decide +kernel)) (fun _ h9 => h9) rfl dX6_copy_78 ?_
    refine lv_iload_n hx hb dX6_copy_81 rfl (lv_at hl 1 rfl) ?_
    refine z_iald (cA := cI) (n := 4) (g := xl) hx hb hK hP 2 0 rfl rfl rfl (by omega) dX6_copy_82 ?_
    refine z_iast (cA := cI) (n := 4) (g := xl) (i := t) (v := xl r) hx hb hK hP hD hS 2 0 rfl rfl rfl (by omega) dX6_copy_83 (fun H locs hP hD hS => ?_)
    have hP : va_P D vwCl [(h0, .inr (5, [.ref ae, .ref al, .ref ap, .ref az, .ref ar, .int (zI np), .ref am, .int (zI 0)])), (ae, .inl (cI, 256, .inl (zA xe2))), (al, .inl (cI, 4, .inl (zA (zU xl t (xl r)))))] H := hP
    have hD : va_D A [(h0, .inr (5, [.ref ae, .ref al, .ref ap, .ref az, .ref ar, .int (zI np), .ref am, .int (zI 0)])), (ae, .inl (cI, 256, .inl (zA xe2))), (al, .inl (cI, 4, .inl (zA (zU xl t (xl r)))))] := hD
    refine lv_aload_n hx hb dX6_copy_84 rfl (lv_at hl 0 rfl) ?_
    refine va_get (D := D) (ci := 5) (C := RX6) (T := TX6) (N := 8) hx hb hts hi6 hown hK hP 0 rfl rfl 1 (by decide) (hts (.fieldLink RX6 13 "ButterflyYardModel" "lengths" "[I") (by decide +kernel)) (fun _ h9 => h9) rfl dX6_copy_85 ?_
    refine lv_iload_n hx hb dX6_copy_88 rfl (lv_at hl 2 rfl) ?_
    refine z_iald (cA := cI) (n := 4) (g := zU xl t (xl r)) hx hb hK hP 2 0 rfl rfl rfl (by omega) dX6_copy_89 ?_
    have hres : xl r = (zU xl t (xl r)) t := by rw [zU_s]
    exact z_iret hx hb hr hlocks rfl xe2 (congrArg (fun z => some (Value.int (zI z))) hres) (by exact ⟨fun k h1 h2 => hf k h1 (by omega), fun x h => hkp x (by omega)⟩) hP hD hS dX6_copy_90
  · refine lv_aload_n hx hb dX6_copy_44 rfl (lv_at hl 0 rfl) ?_
    refine va_get (D := D) (ci := 5) (C := RX6) (T := TX6) (N := 8) hx hb hts hi6 hown hK hP 0 rfl rfl 0 (by decide) (hts (.fieldLink RX6 7 "ButterflyYardModel" "entries" "[I") (by decide +kernel)) (fun _ h9 => h9) rfl dX6_copy_45 ?_
    refine z_bipush hx hb dX6_copy_48 (by decide) ?_
    refine lv_iload_n hx hb dX6_copy_50 rfl (lv_at hl 2 rfl) ?_
    refine z_imul hx hb dX6_copy_51 ?_
    refine lv_iload_n hx hb dX6_copy_52 rfl (lv_at hl 3 rfl) ?_
    refine z_iadd hx hb dX6_copy_53 ?_
    refine lv_aload_n hx hb dX6_copy_54 rfl (lv_at hl 0 rfl) ?_
    refine va_get (D := D) (ci := 5) (C := RX6) (T := TX6) (N := 8) hx hb hts hi6 hown hK hP 0 rfl rfl 0 (by decide) (hts (.fieldLink RX6 7 "ButterflyYardModel" "entries" "[I") (by decide +kernel)) (fun _ h9 => h9) rfl dX6_copy_55 ?_
    refine z_bipush hx hb dX6_copy_58 (by decide) ?_
    refine lv_iload_n hx hb dX6_copy_60 rfl (lv_at hl 1 rfl) ?_
    refine z_imul hx hb dX6_copy_61 ?_
    refine lv_iload_n hx hb dX6_copy_62 rfl (lv_at hl 3 rfl) ?_
    refine z_iadd hx hb dX6_copy_63 ?_
    refine z_iald (cA := cI) (n := 256) (g := xe2) hx hb hK hP 1 0 rfl rfl rfl (by omega) dX6_copy_64 ?_
    refine z_iast (cA := cI) (n := 256) (g := xe2) (i := (64 * t) + i) (v := xe2 ((64 * r) + i)) hx hb hK hP hD hS 1 0 rfl rfl rfl (by omega) dX6_copy_65 (fun H locs hP hD hS => ?_)
    have hP : va_P D vwCl [(h0, .inr (5, [.ref ae, .ref al, .ref ap, .ref az, .ref ar, .int (zI np), .ref am, .int (zI 0)])), (ae, .inl (cI, 256, .inl (zA (zU xe2 ((64 * t) + i) (xe2 ((64 * r) + i)))))), (al, .inl (cI, 4, .inl (zA xl)))] H := hP
    have hD : va_D A [(h0, .inr (5, [.ref ae, .ref al, .ref ap, .ref az, .ref ar, .int (zI np), .ref am, .int (zI 0)])), (ae, .inl (cI, 256, .inl (zA (zU xe2 ((64 * t) + i) (xe2 ((64 * r) + i)))))), (al, .inl (cI, 4, .inl (zA xl)))] := hD
    refine lv_iinc (v := zI (i + 1)) (lv' := [(3, .int (zI (i + 1))), (0, .ref h0), (1, .int (zI r)), (2, .int (zI t))]) hx hb dX6_copy_66 hl (k := 3) rfl (zI_add _ _) (by decide) rfl (fun ls hl => ?_)
    have hl := lv_sub hl [1, 2, 3, 0] rfl
    have hl : lv_has ls 4 [(0, .ref h0), (1, .int (zI r)), (2, .int (zI t)), (3, .int (zI (i + 1)))] := hl
    refine lv_goto (tgt := 34) hx hb dX6_copy_69 (by decide) ?_
    exact ih_34 (i + 1, zU xe2 ((64 * t) + i) (xe2 ((64 * r) + i))) _ _ _ ⟨(by omega), (by exact fun k h1 h2 => by by_cases e : k = i; (subst e; rw [zU_s]; exact hkp _ (by omega)); (rw [zU_n _ _ (by omega)]; exact hf k h1 (by omega))), (by exact fun x h => by rw [zU_n _ _ (by omega)]; exact hkp x (by omega)), hP, hD, hS, hl⟩ (by show (xl r - (i + 1)).toNat < (xl r - i).toNat; omega)

set_option maxHeartbeats 4000000 in
set_option maxRecDepth 100000 in
theorem c_X6_length_1 (l : Launch) (D : va_G) (cI : ClassId) (h0 : Nat) (ae : Nat) (al : Nat) (ap : Nat) (az : Nat) (ar : Nat) (am : Nat) (np : Int) (th : Int) (r : Int) (ha_r : -2147483648 ≤ r ∧ r ≤ 2147483647) (hb_r : ¬ (0 ≤ r ∧ r < 4)) : zC l yX6_length wsX6_length ({ frames := 1, cells := 0, slots := 0, locals := 20 } : Room) D [(cI, .int)] [(h0, .inr (5, [.ref ae, .ref al, .ref ap, .ref az, .ref ar, .int (zI np), .ref am, .int (zI th)]))] [] [.ref h0, .int (zI r)] (S := Unit) (fun u => True) (fun u => some (.int (zI 0))) (fun u => [(h0, .inr (5, [.ref ae, .ref al, .ref ap, .ref az, .ref ar, .int (zI np), .ref am, .int (zI 1)]))]) := by
  refine z_start (cc := cX6_length) (maxL := 2) (ret := (some .int)) (own := RX6) (by decide) rfl rfl (Nat.le_of_ble_eq_true rfl) [(0, .ref h0), (1, .int (zI r))] rfl ?_
  intro pp ee s mm below meth cc A H ls hx hb hr hml hts hown hlocks hin hK hA hP hD hS hR0 hR hl
  have CF : CallFix pp mm cc cX6_length 2 s ([.ref h0, .int (zI r)] : List Value).toArray wsX6_length RX6 := ⟨hx, hb, hml, hown, hts⟩
  have hi6 : ∀ w ∈ wsX60, w ∈ wsX6_length := by decide +kernel
  refine lv_aload_n hx hb dX6_length_0 rfl (lv_at hl 0 rfl) ?_
  refine lv_iload_n hx hb dX6_length_1 rfl (lv_at hl 1 rfl) ?_
  have hRc : va_P D vwCl [] H := z_nilP
  refine z_ro (ws := [(h0, .inr (5, [.ref ae, .ref al, .ref ap, .ref az, .ref ar, .int (zI np), .ref am, .int (zI th)]))]) (va_runS (As := [.int (zI r)]) (rest := [.ref h0]) CF (c_X6_isRow l D r (by omega) H.size) (va_cwS 1 hts gX6_length_X6_isRow rfl rfl rfl (by decide +kernel) ⟨Nat.le_of_ble_eq_true rfl, Nat.le_of_ble_eq_true rfl⟩) (z_preS z_nilP (z_nilD (A := A)) hRc z_noX (hK.sub (tys' := []) [] rfl)) rfl rfl hl.1 rfl (lv_room (Nat.le_of_ble_eq_true rfl)) dX6_length_2 ⟨Nat.le_of_ble_eq_true rfl, Nat.le_of_ble_eq_true rfl⟩) hP hS hA (cells' := 0) (slots' := 0) rfl rfl (fun H locs hP hS => ?_)
  refine z_ifB_eq (tgt := 12) hx hb dX6_length_5 (by decide) (fun c_5 => ?_) (fun c_5 => absurd c_5 (by omega))
  refine z_iconst hx hb dX6_length_12 ?_
  refine va_put (D := D) (ci := 5) (v := .int (zI 1)) (ty := .int) (C := RX6) (T := TX6) (N := 8) hx hb hts hi6 tyX6 tyX6_ok nmX6 hown hK hP hD hS 0 rfl rfl 7 (by decide) (hts (.fieldLink RX6 28 "ButterflyYardModel" "thrown" "I") (by decide +kernel)) (fun _ h9 => h9) rfl (by decide +kernel) rfl rfl (Nat.le_of_ble_eq_true rfl) dX6_length_13 (fun H locs hP hD hS => ?_)
  have hP : va_P D vwCl [(h0, .inr (5, [.ref ae, .ref al, .ref ap, .ref az, .ref ar, .int (zI np), .ref am, .int (zI 1)]))] H := hP
  have hD : va_D A [(h0, .inr (5, [.ref ae, .ref al, .ref ap, .ref az, .ref ar, .int (zI np), .ref am, .int (zI 1)]))] := hD
  refine lv_aload_n hx hb dX6_length_16 rfl (lv_at hl 0 rfl) ?_
  refine va_get (D := D) (ci := 5) (C := RX6) (T := TX6) (N := 8) hx hb hts hi6 hown hK hP 0 rfl rfl 7 (by decide) (hts (.fieldLink RX6 28 "ButterflyYardModel" "thrown" "I") (by decide +kernel)) (fun _ h9 => h9) rfl dX6_length_17 ?_
  refine z_if_ne (tgt := 32) hx hb dX6_length_20 (by decide) (by omega) (fun c_20 => ?_) (fun c_20 => absurd c_20 (by omega))
  refine z_iconst hx hb dX6_length_32 ?_
  exact z_iret hx hb hr hlocks rfl () (rfl) (trivial) hP hD hS dX6_length_33

set_option maxHeartbeats 4000000 in
set_option maxRecDepth 100000 in
theorem c_X6_length_ok (l : Launch) (D : va_G) (cI : ClassId) (h0 : Nat) (ae : Nat) (al : Nat) (ap : Nat) (az : Nat) (ar : Nat) (am : Nat) (np : Int) (th : Int) (xl : Int → Int) (r : Int) (ha_r : -2147483648 ≤ r ∧ r ≤ 2147483647) (hr_r : 0 ≤ r ∧ r < 4) : zC l yX6_length wsX6_length ({ frames := 1, cells := 0, slots := 0, locals := 20 } : Room) D [(cI, .int)] [(h0, .inr (5, [.ref ae, .ref al, .ref ap, .ref az, .ref ar, .int (zI np), .ref am, .int (zI th)]))] [(al, .inl (cI, 4, .inl (zA xl)))] [.ref h0, .int (zI r)] (S := Unit) (fun u => True) (fun u => some (.int (zI (xl r)))) (fun u => [(h0, .inr (5, [.ref ae, .ref al, .ref ap, .ref az, .ref ar, .int (zI np), .ref am, .int (zI 0)]))]) := by
  refine z_start (cc := cX6_length) (maxL := 2) (ret := (some .int)) (own := RX6) (by decide) rfl rfl (Nat.le_of_ble_eq_true rfl) [(0, .ref h0), (1, .int (zI r))] rfl ?_
  intro pp ee s mm below meth cc A H ls hx hb hr hml hts hown hlocks hin hK hA hP hD hS hR0 hR hl
  have CF : CallFix pp mm cc cX6_length 2 s ([.ref h0, .int (zI r)] : List Value).toArray wsX6_length RX6 := ⟨hx, hb, hml, hown, hts⟩
  have hi6 : ∀ w ∈ wsX60, w ∈ wsX6_length := by decide +kernel
  refine lv_aload_n hx hb dX6_length_0 rfl (lv_at hl 0 rfl) ?_
  refine lv_iload_n hx hb dX6_length_1 rfl (lv_at hl 1 rfl) ?_
  have hRc : va_P D vwCl [] H := z_nilP
  refine z_ro (ws := [(h0, .inr (5, [.ref ae, .ref al, .ref ap, .ref az, .ref ar, .int (zI np), .ref am, .int (zI th)]))]) (va_runS (As := [.int (zI r)]) (rest := [.ref h0]) CF (c_X6_isRow l D r (by omega) H.size) (va_cwS 1 hts gX6_length_X6_isRow rfl rfl rfl (by decide +kernel) ⟨Nat.le_of_ble_eq_true rfl, Nat.le_of_ble_eq_true rfl⟩) (z_preS z_nilP (z_nilD (A := A)) hRc z_noX (hK.sub (tys' := []) [] rfl)) rfl rfl hl.1 rfl (lv_room (Nat.le_of_ble_eq_true rfl)) dX6_length_2 ⟨Nat.le_of_ble_eq_true rfl, Nat.le_of_ble_eq_true rfl⟩) hP hS hA (cells' := 0) (slots' := 0) rfl rfl (fun H locs hP hS => ?_)
  have hR := hR0.at hS
  refine z_ifB_eq (tgt := 12) hx hb dX6_length_5 (by decide) (fun c_5 => absurd c_5 (by omega)) (fun c_5 => ?_)
  refine z_iconst hx hb dX6_length_8 ?_
  refine lv_goto (tgt := 13) hx hb dX6_length_9 (by decide) ?_
  refine va_put (D := D) (ci := 5) (v := .int (zI 0)) (ty := .int) (C := RX6) (T := TX6) (N := 8) hx hb hts hi6 tyX6 tyX6_ok nmX6 hown hK hP hD hS 0 rfl rfl 7 (by decide) (hts (.fieldLink RX6 28 "ButterflyYardModel" "thrown" "I") (by decide +kernel)) (fun _ h9 => h9) rfl (by decide +kernel) rfl rfl (Nat.le_of_ble_eq_true rfl) dX6_length_13 (fun H locs hP hD hS => ?_)
  have hP : va_P D vwCl [(h0, .inr (5, [.ref ae, .ref al, .ref ap, .ref az, .ref ar, .int (zI np), .ref am, .int (zI 0)]))] H := hP
  have hD : va_D A [(h0, .inr (5, [.ref ae, .ref al, .ref ap, .ref az, .ref ar, .int (zI np), .ref am, .int (zI 0)]))] := hD
  have hR := hR0.at hS
  refine lv_aload_n hx hb dX6_length_16 rfl (lv_at hl 0 rfl) ?_
  refine va_get (D := D) (ci := 5) (C := RX6) (T := TX6) (N := 8) hx hb hts hi6 hown hK hP 0 rfl rfl 7 (by decide) (hts (.fieldLink RX6 28 "ButterflyYardModel" "thrown" "I") (by decide +kernel)) (fun _ h9 => h9) rfl dX6_length_17 ?_
  refine z_if_ne (tgt := 32) hx hb dX6_length_20 (by decide) (by omega) (fun c_20 => absurd c_20 (by omega)) (fun c_20 => ?_)
  refine lv_aload_n hx hb dX6_length_23 rfl (lv_at hl 0 rfl) ?_
  refine va_get (D := D) (ci := 5) (C := RX6) (T := TX6) (N := 8) hx hb hts hi6 hown hK hP 0 rfl rfl 1 (by decide) (hts (.fieldLink RX6 13 "ButterflyYardModel" "lengths" "[I") (by decide +kernel)) (fun _ h9 => h9) rfl dX6_length_24 ?_
  refine lv_iload_n hx hb dX6_length_27 rfl (lv_at hl 1 rfl) ?_
  refine z_iald (cA := cI) (n := 4) (g := xl) hx hb hK hR 0 0 rfl rfl rfl (by omega) dX6_length_28 ?_
  refine lv_goto (tgt := 33) hx hb dX6_length_29 (by decide) ?_
  exact z_iret hx hb hr hlocks rfl () (rfl) (trivial) hP hD hS dX6_length_33

set_option maxHeartbeats 4000000 in
set_option maxRecDepth 100000 in
theorem c_X6_at_1a (l : Launch) (D : va_G) (cI : ClassId) (h0 : Nat) (ae : Nat) (al : Nat) (ap : Nat) (az : Nat) (ar : Nat) (am : Nat) (np : Int) (th : Int) (r : Int) (x : Int) (ha_r : -2147483648 ≤ r ∧ r ≤ 2147483647) (ha_x : -2147483648 ≤ x ∧ x ≤ 2147483647) (hb_r : ¬ (0 ≤ r ∧ r < 4)) : zC l yX6_at wsX6_at ({ frames := 1, cells := 0, slots := 0, locals := 20 } : Room) D [(cI, .int)] [(h0, .inr (5, [.ref ae, .ref al, .ref ap, .ref az, .ref ar, .int (zI np), .ref am, .int (zI th)]))] [] [.ref h0, .int (zI r), .int (zI x)] (S := Unit) (fun u => True) (fun u => some (.int (zI 0))) (fun u => [(h0, .inr (5, [.ref ae, .ref al, .ref ap, .ref az, .ref ar, .int (zI np), .ref am, .int (zI 1)]))]) := by
  refine z_start (cc := cX6_at) (maxL := 3) (ret := (some .int)) (own := RX6) (by decide) rfl rfl (Nat.le_of_ble_eq_true rfl) [(0, .ref h0), (1, .int (zI r)), (2, .int (zI x))] rfl ?_
  intro pp ee s mm below meth cc A H ls hx hb hr hml hts hown hlocks hin hK hA hP hD hS hR0 hR hl
  have CF : CallFix pp mm cc cX6_at 3 s ([.ref h0, .int (zI r), .int (zI x)] : List Value).toArray wsX6_at RX6 := ⟨hx, hb, hml, hown, hts⟩
  have hi6 : ∀ w ∈ wsX60, w ∈ wsX6_at := by decide +kernel
  refine lv_aload_n hx hb dX6_at_0 rfl (lv_at hl 0 rfl) ?_
  refine lv_iload_n hx hb dX6_at_1 rfl (lv_at hl 1 rfl) ?_
  have hRc : va_P D vwCl [] H := z_nilP
  refine z_ro (ws := [(h0, .inr (5, [.ref ae, .ref al, .ref ap, .ref az, .ref ar, .int (zI np), .ref am, .int (zI th)]))]) (va_runS (As := [.int (zI r)]) (rest := [.ref h0]) CF (c_X6_isRow l D r (by omega) H.size) (va_cwS 1 hts gX6_at_X6_isRow rfl rfl rfl (by decide +kernel) ⟨Nat.le_of_ble_eq_true rfl, Nat.le_of_ble_eq_true rfl⟩) (z_preS z_nilP (z_nilD (A := A)) hRc z_noX (hK.sub (tys' := []) [] rfl)) rfl rfl hl.1 rfl (lv_room (Nat.le_of_ble_eq_true rfl)) dX6_at_2 ⟨Nat.le_of_ble_eq_true rfl, Nat.le_of_ble_eq_true rfl⟩) hP hS hA (cells' := 0) (slots' := 0) rfl rfl (fun H locs hP hS => ?_)
  refine z_ifB_eq (tgt := 26) hx hb dX6_at_5 (by decide) (fun c_5 => ?_) (fun c_5 => absurd c_5 (by omega))
  refine z_iconst hx hb dX6_at_26 ?_
  refine va_put (D := D) (ci := 5) (v := .int (zI 1)) (ty := .int) (C := RX6) (T := TX6) (N := 8) hx hb hts hi6 tyX6 tyX6_ok nmX6 hown hK hP hD hS 0 rfl rfl 7 (by decide) (hts (.fieldLink RX6 28 "ButterflyYardModel" "thrown" "I") (by decide +kernel)) (fun _ h9 => h9) rfl (by decide +kernel) rfl rfl (Nat.le_of_ble_eq_true rfl) dX6_at_27 (fun H locs hP hD hS => ?_)
  have hP : va_P D vwCl [(h0, .inr (5, [.ref ae, .ref al, .ref ap, .ref az, .ref ar, .int (zI np), .ref am, .int (zI 1)]))] H := hP
  have hD : va_D A [(h0, .inr (5, [.ref ae, .ref al, .ref ap, .ref az, .ref ar, .int (zI np), .ref am, .int (zI 1)]))] := hD
  refine lv_aload_n hx hb dX6_at_30 rfl (lv_at hl 0 rfl) ?_
  refine va_get (D := D) (ci := 5) (C := RX6) (T := TX6) (N := 8) hx hb hts hi6 hown hK hP 0 rfl rfl 7 (by decide) (hts (.fieldLink RX6 28 "ButterflyYardModel" "thrown" "I") (by decide +kernel)) (fun _ h9 => h9) rfl dX6_at_31 ?_
  refine z_if_ne (tgt := 51) hx hb dX6_at_34 (by decide) (by omega) (fun c_34 => ?_) (fun c_34 => absurd c_34 (by omega))
  refine z_iconst hx hb dX6_at_51 ?_
  exact z_iret hx hb hr hlocks rfl () (rfl) (trivial) hP hD hS dX6_at_52

set_option maxHeartbeats 4000000 in
set_option maxRecDepth 100000 in
theorem c_X6_at_1b (l : Launch) (D : va_G) (cI : ClassId) (h0 : Nat) (ae : Nat) (al : Nat) (ap : Nat) (az : Nat) (ar : Nat) (am : Nat) (np : Int) (th : Int) (r : Int) (x : Int) (ha_r : -2147483648 ≤ r ∧ r ≤ 2147483647) (ha_x : -2147483648 ≤ x ∧ x ≤ 2147483647) (hr_r : 0 ≤ r ∧ r < 4) (hx_ : x < 0) : zC l yX6_at wsX6_at ({ frames := 1, cells := 0, slots := 0, locals := 20 } : Room) D [(cI, .int)] [(h0, .inr (5, [.ref ae, .ref al, .ref ap, .ref az, .ref ar, .int (zI np), .ref am, .int (zI th)]))] [] [.ref h0, .int (zI r), .int (zI x)] (S := Unit) (fun u => True) (fun u => some (.int (zI 0))) (fun u => [(h0, .inr (5, [.ref ae, .ref al, .ref ap, .ref az, .ref ar, .int (zI np), .ref am, .int (zI 1)]))]) := by
  refine z_start (cc := cX6_at) (maxL := 3) (ret := (some .int)) (own := RX6) (by decide) rfl rfl (Nat.le_of_ble_eq_true rfl) [(0, .ref h0), (1, .int (zI r)), (2, .int (zI x))] rfl ?_
  intro pp ee s mm below meth cc A H ls hx hb hr hml hts hown hlocks hin hK hA hP hD hS hR0 hR hl
  have CF : CallFix pp mm cc cX6_at 3 s ([.ref h0, .int (zI r), .int (zI x)] : List Value).toArray wsX6_at RX6 := ⟨hx, hb, hml, hown, hts⟩
  have hi6 : ∀ w ∈ wsX60, w ∈ wsX6_at := by decide +kernel
  refine lv_aload_n hx hb dX6_at_0 rfl (lv_at hl 0 rfl) ?_
  refine lv_iload_n hx hb dX6_at_1 rfl (lv_at hl 1 rfl) ?_
  have hRc : va_P D vwCl [] H := z_nilP
  refine z_ro (ws := [(h0, .inr (5, [.ref ae, .ref al, .ref ap, .ref az, .ref ar, .int (zI np), .ref am, .int (zI th)]))]) (va_runS (As := [.int (zI r)]) (rest := [.ref h0]) CF (c_X6_isRow l D r (by omega) H.size) (va_cwS 1 hts gX6_at_X6_isRow rfl rfl rfl (by decide +kernel) ⟨Nat.le_of_ble_eq_true rfl, Nat.le_of_ble_eq_true rfl⟩) (z_preS z_nilP (z_nilD (A := A)) hRc z_noX (hK.sub (tys' := []) [] rfl)) rfl rfl hl.1 rfl (lv_room (Nat.le_of_ble_eq_true rfl)) dX6_at_2 ⟨Nat.le_of_ble_eq_true rfl, Nat.le_of_ble_eq_true rfl⟩) hP hS hA (cells' := 0) (slots' := 0) rfl rfl (fun H locs hP hS => ?_)
  refine z_ifB_eq (tgt := 26) hx hb dX6_at_5 (by decide) (fun c_5 => absurd c_5 (by omega)) (fun c_5 => ?_)
  refine lv_iload_n hx hb dX6_at_8 rfl (lv_at hl 2 rfl) ?_
  refine z_if_lt (tgt := 26) hx hb dX6_at_9 (by decide) (by omega) (fun c_9 => ?_) (fun c_9 => absurd c_9 (by omega))
  refine z_iconst hx hb dX6_at_26 ?_
  refine va_put (D := D) (ci := 5) (v := .int (zI 1)) (ty := .int) (C := RX6) (T := TX6) (N := 8) hx hb hts hi6 tyX6 tyX6_ok nmX6 hown hK hP hD hS 0 rfl rfl 7 (by decide) (hts (.fieldLink RX6 28 "ButterflyYardModel" "thrown" "I") (by decide +kernel)) (fun _ h9 => h9) rfl (by decide +kernel) rfl rfl (Nat.le_of_ble_eq_true rfl) dX6_at_27 (fun H locs hP hD hS => ?_)
  have hP : va_P D vwCl [(h0, .inr (5, [.ref ae, .ref al, .ref ap, .ref az, .ref ar, .int (zI np), .ref am, .int (zI 1)]))] H := hP
  have hD : va_D A [(h0, .inr (5, [.ref ae, .ref al, .ref ap, .ref az, .ref ar, .int (zI np), .ref am, .int (zI 1)]))] := hD
  refine lv_aload_n hx hb dX6_at_30 rfl (lv_at hl 0 rfl) ?_
  refine va_get (D := D) (ci := 5) (C := RX6) (T := TX6) (N := 8) hx hb hts hi6 hown hK hP 0 rfl rfl 7 (by decide) (hts (.fieldLink RX6 28 "ButterflyYardModel" "thrown" "I") (by decide +kernel)) (fun _ h9 => h9) rfl dX6_at_31 ?_
  refine z_if_ne (tgt := 51) hx hb dX6_at_34 (by decide) (by omega) (fun c_34 => ?_) (fun c_34 => absurd c_34 (by omega))
  refine z_iconst hx hb dX6_at_51 ?_
  exact z_iret hx hb hr hlocks rfl () (rfl) (trivial) hP hD hS dX6_at_52

set_option maxHeartbeats 4000000 in
set_option maxRecDepth 100000 in
theorem c_X6_at_1c (l : Launch) (D : va_G) (cI : ClassId) (h0 : Nat) (ae : Nat) (al : Nat) (ap : Nat) (az : Nat) (ar : Nat) (am : Nat) (np : Int) (th : Int) (xl : Int → Int) (r : Int) (x : Int) (ha_r : -2147483648 ≤ r ∧ r ≤ 2147483647) (ha_x : -2147483648 ≤ x ∧ x ≤ 2147483647) (hr_r : 0 ≤ r ∧ r < 4) (hxl_r : 0 ≤ xl r ∧ xl r ≤ 64) (hx_ : xl r ≤ x) : zC l yX6_at wsX6_at ({ frames := 1, cells := 0, slots := 0, locals := 20 } : Room) D [(cI, .int)] [(h0, .inr (5, [.ref ae, .ref al, .ref ap, .ref az, .ref ar, .int (zI np), .ref am, .int (zI th)]))] [(al, .inl (cI, 4, .inl (zA xl)))] [.ref h0, .int (zI r), .int (zI x)] (S := Unit) (fun u => True) (fun u => some (.int (zI 0))) (fun u => [(h0, .inr (5, [.ref ae, .ref al, .ref ap, .ref az, .ref ar, .int (zI np), .ref am, .int (zI 1)]))]) := by
  refine z_start (cc := cX6_at) (maxL := 3) (ret := (some .int)) (own := RX6) (by decide) rfl rfl (Nat.le_of_ble_eq_true rfl) [(0, .ref h0), (1, .int (zI r)), (2, .int (zI x))] rfl ?_
  intro pp ee s mm below meth cc A H ls hx hb hr hml hts hown hlocks hin hK hA hP hD hS hR0 hR hl
  have CF : CallFix pp mm cc cX6_at 3 s ([.ref h0, .int (zI r), .int (zI x)] : List Value).toArray wsX6_at RX6 := ⟨hx, hb, hml, hown, hts⟩
  have hi6 : ∀ w ∈ wsX60, w ∈ wsX6_at := by decide +kernel
  refine lv_aload_n hx hb dX6_at_0 rfl (lv_at hl 0 rfl) ?_
  refine lv_iload_n hx hb dX6_at_1 rfl (lv_at hl 1 rfl) ?_
  have hRc : va_P D vwCl [] H := z_nilP
  refine z_ro (ws := [(h0, .inr (5, [.ref ae, .ref al, .ref ap, .ref az, .ref ar, .int (zI np), .ref am, .int (zI th)]))]) (va_runS (As := [.int (zI r)]) (rest := [.ref h0]) CF (c_X6_isRow l D r (by omega) H.size) (va_cwS 1 hts gX6_at_X6_isRow rfl rfl rfl (by decide +kernel) ⟨Nat.le_of_ble_eq_true rfl, Nat.le_of_ble_eq_true rfl⟩) (z_preS z_nilP (z_nilD (A := A)) hRc z_noX (hK.sub (tys' := []) [] rfl)) rfl rfl hl.1 rfl (lv_room (Nat.le_of_ble_eq_true rfl)) dX6_at_2 ⟨Nat.le_of_ble_eq_true rfl, Nat.le_of_ble_eq_true rfl⟩) hP hS hA (cells' := 0) (slots' := 0) rfl rfl (fun H locs hP hS => ?_)
  have hR := hR0.at hS
  refine z_ifB_eq (tgt := 26) hx hb dX6_at_5 (by decide) (fun c_5 => absurd c_5 (by omega)) (fun c_5 => ?_)
  refine lv_iload_n hx hb dX6_at_8 rfl (lv_at hl 2 rfl) ?_
  refine z_if_lt (tgt := 26) hx hb dX6_at_9 (by decide) (by omega) (fun c_9 => absurd c_9 (by omega)) (fun c_9 => ?_)
  refine lv_iload_n hx hb dX6_at_12 rfl (lv_at hl 2 rfl) ?_
  refine lv_aload_n hx hb dX6_at_13 rfl (lv_at hl 0 rfl) ?_
  refine va_get (D := D) (ci := 5) (C := RX6) (T := TX6) (N := 8) hx hb hts hi6 hown hK hP 0 rfl rfl 1 (by decide) (hts (.fieldLink RX6 13 "ButterflyYardModel" "lengths" "[I") (by decide +kernel)) (fun _ h9 => h9) rfl dX6_at_14 ?_
  refine lv_iload_n hx hb dX6_at_17 rfl (lv_at hl 1 rfl) ?_
  refine z_iald (cA := cI) (n := 4) (g := xl) hx hb hK hR 0 0 rfl rfl rfl (by omega) dX6_at_18 ?_
  refine z_icmp_ge (tgt := 26) hx hb dX6_at_19 (by decide) (by omega) (fun c_19 => ?_) (fun c_19 => absurd c_19 (by omega))
  refine z_iconst hx hb dX6_at_26 ?_
  refine va_put (D := D) (ci := 5) (v := .int (zI 1)) (ty := .int) (C := RX6) (T := TX6) (N := 8) hx hb hts hi6 tyX6 tyX6_ok nmX6 hown hK hP hD hS 0 rfl rfl 7 (by decide) (hts (.fieldLink RX6 28 "ButterflyYardModel" "thrown" "I") (by decide +kernel)) (fun _ h9 => h9) rfl (by decide +kernel) rfl rfl (Nat.le_of_ble_eq_true rfl) dX6_at_27 (fun H locs hP hD hS => ?_)
  have hP : va_P D vwCl [(h0, .inr (5, [.ref ae, .ref al, .ref ap, .ref az, .ref ar, .int (zI np), .ref am, .int (zI 1)]))] H := hP
  have hD : va_D A [(h0, .inr (5, [.ref ae, .ref al, .ref ap, .ref az, .ref ar, .int (zI np), .ref am, .int (zI 1)]))] := hD
  have hR := hR0.at hS
  refine lv_aload_n hx hb dX6_at_30 rfl (lv_at hl 0 rfl) ?_
  refine va_get (D := D) (ci := 5) (C := RX6) (T := TX6) (N := 8) hx hb hts hi6 hown hK hP 0 rfl rfl 7 (by decide) (hts (.fieldLink RX6 28 "ButterflyYardModel" "thrown" "I") (by decide +kernel)) (fun _ h9 => h9) rfl dX6_at_31 ?_
  refine z_if_ne (tgt := 51) hx hb dX6_at_34 (by decide) (by omega) (fun c_34 => ?_) (fun c_34 => absurd c_34 (by omega))
  refine z_iconst hx hb dX6_at_51 ?_
  exact z_iret hx hb hr hlocks rfl () (rfl) (trivial) hP hD hS dX6_at_52

set_option maxHeartbeats 4000000 in
set_option maxRecDepth 100000 in
theorem c_X6_at_ok (l : Launch) (D : va_G) (cI : ClassId) (h0 : Nat) (ae : Nat) (al : Nat) (ap : Nat) (az : Nat) (ar : Nat) (am : Nat) (np : Int) (th : Int) (xe : Int → Int) (xl : Int → Int) (r : Int) (x : Int) (ha_r : -2147483648 ≤ r ∧ r ≤ 2147483647) (ha_x : -2147483648 ≤ x ∧ x ≤ 2147483647) (hr_r : 0 ≤ r ∧ r < 4) (hxl_r : 0 ≤ xl r ∧ xl r ≤ 64) (hx_ : 0 ≤ x ∧ x < xl r) : zC l yX6_at wsX6_at ({ frames := 1, cells := 0, slots := 0, locals := 20 } : Room) D [(cI, .int)] [(h0, .inr (5, [.ref ae, .ref al, .ref ap, .ref az, .ref ar, .int (zI np), .ref am, .int (zI th)]))] [(ae, .inl (cI, 256, .inl (zA xe))), (al, .inl (cI, 4, .inl (zA xl)))] [.ref h0, .int (zI r), .int (zI x)] (S := Unit) (fun u => True) (fun u => some (.int (zI (xe (64 * r + x))))) (fun u => [(h0, .inr (5, [.ref ae, .ref al, .ref ap, .ref az, .ref ar, .int (zI np), .ref am, .int (zI 0)]))]) := by
  refine z_start (cc := cX6_at) (maxL := 3) (ret := (some .int)) (own := RX6) (by decide) rfl rfl (Nat.le_of_ble_eq_true rfl) [(0, .ref h0), (1, .int (zI r)), (2, .int (zI x))] rfl ?_
  intro pp ee s mm below meth cc A H ls hx hb hr hml hts hown hlocks hin hK hA hP hD hS hR0 hR hl
  have CF : CallFix pp mm cc cX6_at 3 s ([.ref h0, .int (zI r), .int (zI x)] : List Value).toArray wsX6_at RX6 := ⟨hx, hb, hml, hown, hts⟩
  have hi6 : ∀ w ∈ wsX60, w ∈ wsX6_at := by decide +kernel
  refine lv_aload_n hx hb dX6_at_0 rfl (lv_at hl 0 rfl) ?_
  refine lv_iload_n hx hb dX6_at_1 rfl (lv_at hl 1 rfl) ?_
  have hRc : va_P D vwCl [] H := z_nilP
  refine z_ro (ws := [(h0, .inr (5, [.ref ae, .ref al, .ref ap, .ref az, .ref ar, .int (zI np), .ref am, .int (zI th)]))]) (va_runS (As := [.int (zI r)]) (rest := [.ref h0]) CF (c_X6_isRow l D r (by omega) H.size) (va_cwS 1 hts gX6_at_X6_isRow rfl rfl rfl (by decide +kernel) ⟨Nat.le_of_ble_eq_true rfl, Nat.le_of_ble_eq_true rfl⟩) (z_preS z_nilP (z_nilD (A := A)) hRc z_noX (hK.sub (tys' := []) [] rfl)) rfl rfl hl.1 rfl (lv_room (Nat.le_of_ble_eq_true rfl)) dX6_at_2 ⟨Nat.le_of_ble_eq_true rfl, Nat.le_of_ble_eq_true rfl⟩) hP hS hA (cells' := 0) (slots' := 0) rfl rfl (fun H locs hP hS => ?_)
  have hR := hR0.at hS
  refine z_ifB_eq (tgt := 26) hx hb dX6_at_5 (by decide) (fun c_5 => absurd c_5 (by omega)) (fun c_5 => ?_)
  refine lv_iload_n hx hb dX6_at_8 rfl (lv_at hl 2 rfl) ?_
  refine z_if_lt (tgt := 26) hx hb dX6_at_9 (by decide) (by omega) (fun c_9 => absurd c_9 (by omega)) (fun c_9 => ?_)
  refine lv_iload_n hx hb dX6_at_12 rfl (lv_at hl 2 rfl) ?_
  refine lv_aload_n hx hb dX6_at_13 rfl (lv_at hl 0 rfl) ?_
  refine va_get (D := D) (ci := 5) (C := RX6) (T := TX6) (N := 8) hx hb hts hi6 hown hK hP 0 rfl rfl 1 (by decide) (hts (.fieldLink RX6 13 "ButterflyYardModel" "lengths" "[I") (by decide +kernel)) (fun _ h9 => h9) rfl dX6_at_14 ?_
  refine lv_iload_n hx hb dX6_at_17 rfl (lv_at hl 1 rfl) ?_
  refine z_iald (cA := cI) (n := 4) (g := xl) hx hb hK hR 1 0 rfl rfl rfl (by omega) dX6_at_18 ?_
  refine z_icmp_ge (tgt := 26) hx hb dX6_at_19 (by decide) (by omega) (fun c_19 => absurd c_19 (by omega)) (fun c_19 => ?_)
  refine z_iconst hx hb dX6_at_22 ?_
  refine lv_goto (tgt := 27) hx hb dX6_at_23 (by decide) ?_
  refine va_put (D := D) (ci := 5) (v := .int (zI 0)) (ty := .int) (C := RX6) (T := TX6) (N := 8) hx hb hts hi6 tyX6 tyX6_ok nmX6 hown hK hP hD hS 0 rfl rfl 7 (by decide) (hts (.fieldLink RX6 28 "ButterflyYardModel" "thrown" "I") (by decide +kernel)) (fun _ h9 => h9) rfl (by decide +kernel) rfl rfl (Nat.le_of_ble_eq_true rfl) dX6_at_27 (fun H locs hP hD hS => ?_)
  have hP : va_P D vwCl [(h0, .inr (5, [.ref ae, .ref al, .ref ap, .ref az, .ref ar, .int (zI np), .ref am, .int (zI 0)]))] H := hP
  have hD : va_D A [(h0, .inr (5, [.ref ae, .ref al, .ref ap, .ref az, .ref ar, .int (zI np), .ref am, .int (zI 0)]))] := hD
  have hR := hR0.at hS
  refine lv_aload_n hx hb dX6_at_30 rfl (lv_at hl 0 rfl) ?_
  refine va_get (D := D) (ci := 5) (C := RX6) (T := TX6) (N := 8) hx hb hts hi6 hown hK hP 0 rfl rfl 7 (by decide) (hts (.fieldLink RX6 28 "ButterflyYardModel" "thrown" "I") (by decide +kernel)) (fun _ h9 => h9) rfl dX6_at_31 ?_
  refine z_if_ne (tgt := 51) hx hb dX6_at_34 (by decide) (by omega) (fun c_34 => absurd c_34 (by omega)) (fun c_34 => ?_)
  refine lv_aload_n hx hb dX6_at_37 rfl (lv_at hl 0 rfl) ?_
  refine va_get (D := D) (ci := 5) (C := RX6) (T := TX6) (N := 8) hx hb hts hi6 hown hK hP 0 rfl rfl 0 (by decide) (hts (.fieldLink RX6 7 "ButterflyYardModel" "entries" "[I") (by decide +kernel)) (fun _ h9 => h9) rfl dX6_at_38 ?_
  refine z_bipush hx hb dX6_at_41 (by decide) ?_
  refine lv_iload_n hx hb dX6_at_43 rfl (lv_at hl 1 rfl) ?_
  refine z_imul hx hb dX6_at_44 ?_
  refine lv_iload_n hx hb dX6_at_45 rfl (lv_at hl 2 rfl) ?_
  refine z_iadd hx hb dX6_at_46 ?_
  refine z_iald (cA := cI) (n := 256) (g := xe) hx hb hK hR 0 0 rfl rfl rfl (by omega) dX6_at_47 ?_
  refine lv_goto (tgt := 52) hx hb dX6_at_48 (by decide) ?_
  exact z_iret hx hb hr hlocks rfl () (rfl) (trivial) hP hD hS dX6_at_52

