set_option maxHeartbeats 4000000 in
set_option maxRecDepth 100000 in
theorem c_X1_remainder (l : Launch) (D : va_G) (v : Int) (n : Int) (hv : -9223372036854775808 ≤ v ∧ v ≤ 9223372036854775807) (hn : 1 ≤ n ∧ n ≤ 2147483647) : zF l yX1_remainder wsX1_remainder ({ frames := 0, cells := 0, slots := 0, locals := 0 } : Room) D [] [] [.long (zL v), .int (zI n)] (some (.int (zI (v % n)))) := by
  refine z_start (cc := cX1_remainder) (maxL := 5) (ret := (some .int)) (own := RX1) (by decide) rfl rfl (Nat.le_of_ble_eq_true rfl) [(0, .long (zL v)), (2, .int (zI n))] rfl ?_
  intro pp ee s mm below meth cc A H ls hx hb hr hml hts hown hlocks hin hK hA hP hD hS hR0 hR hl
  have CF : CallFix pp mm cc cX1_remainder 5 s ([.long (zL v), .int (zI n)] : List Value).toArray wsX1_remainder RX1 := ⟨hx, hb, hml, hown, hts⟩
  refine lv_iload_n hx hb dX1_remainder_0 rfl (lv_at hl 1 rfl) ?_
  refine z_iconst hx hb dX1_remainder_1 ?_
  refine z_icmp_ge (tgt := 7) hx hb dX1_remainder_2 (by decide) (by omega) (fun c_2 => ?_) (fun c_2 => absurd c_2 (by omega))
  refine lv_lload_n hx hb dX1_remainder_7 rfl (lv_at hl 0 rfl) ?_
  refine lv_iload_n hx hb dX1_remainder_8 rfl (lv_at hl 1 rfl) ?_
  refine z_i2l hx hb dX1_remainder_9 (by omega) ?_
  refine z_lrem hx hb dX1_remainder_10 (by exact hv) (by omega) ?_
  refine z_nameL (fun r e_r => ?_)
  refine lv_lstore_n (lv' := [(3, .long (zL r)), (0, .long (zL v)), (2, .int (zI n))]) hx hb dX1_remainder_11 rfl hl (by decide) rfl (fun ls hl => ?_)
  have hl := lv_sub hl [1, 2, 0] rfl
  have hl : lv_has ls 5 [(0, .long (zL v)), (2, .int (zI n)), (3, .long (zL r))] := hl
  have hr0 := z_tmod v hn.1
  rw [← e_r] at hr0
  refine lv_lload_n hx hb dX1_remainder_12 rfl (lv_at hl 2 rfl) ?_
  refine z_lconst0 hx hb dX1_remainder_13 ?_
  refine z_lcmp hx hb dX1_remainder_14 (by omega) (by omega) ?_
  refine z_ifC_ge (tgt := 25) hx hb dX1_remainder_15 (by decide) (fun c_15 => ?_) (fun c_15 => ?_)
  · refine lv_lload_n hx hb dX1_remainder_25 rfl (lv_at hl 2 rfl) ?_
    refine z_l2i hx hb dX1_remainder_26 ?_
    have hres : v % n = r := by first | rfl | omega
    exact z_iret hx hb hr hlocks rfl () (congrArg (fun z => some (Value.int (zI z))) hres) (trivial) z_nilP z_nilD hS dX1_remainder_27
  · refine lv_lload_n hx hb dX1_remainder_18 rfl (lv_at hl 2 rfl) ?_
    refine lv_iload_n hx hb dX1_remainder_19 rfl (lv_at hl 1 rfl) ?_
    refine z_i2l hx hb dX1_remainder_20 (by omega) ?_
    refine z_ladd hx hb dX1_remainder_21 ?_
    refine lv_goto (tgt := 26) hx hb dX1_remainder_22 (by decide) ?_
    refine z_l2i hx hb dX1_remainder_26 ?_
    have hres : v % n = r + n := by first | rfl | omega
    exact z_iret hx hb hr hlocks rfl () (congrArg (fun z => some (Value.int (zI z))) hres) (trivial) z_nilP z_nilD hS dX1_remainder_27

set_option maxHeartbeats 4000000 in
set_option maxRecDepth 100000 in
theorem c_X1_power (l : Launch) (D : va_G) (b : Int) (e : Int) (n : Int) (hb0 : 0 ≤ b ∧ b ≤ 2147483647) (he0 : 0 ≤ e ∧ e < 16384) (hn : 2 ≤ n ∧ n ≤ 2147483647) : zF l yX1_power wsX1_power ({ frames := 1, cells := 0, slots := 0, locals := 24 } : Room) D [] [] [.int (zI b), .int (zI e), .int (zI n)] (some (.int (zI (pwm b e n)))) := by
  refine z_start (cc := cX1_power) (maxL := 5) (ret := (some .int)) (own := RX1) (by decide) rfl rfl (Nat.le_of_ble_eq_true rfl) [(0, .int (zI b)), (1, .int (zI e)), (2, .int (zI n))] rfl ?_
  intro pp ee s mm below meth cc A H ls hx hb hr hml hts hown hlocks hin hK hA hP hD hS hR0 hR hl
  have CF : CallFix pp mm cc cX1_power 5 s ([.int (zI b), .int (zI e), .int (zI n)] : List Value).toArray wsX1_power RX1 := ⟨hx, hb, hml, hown, hts⟩
  refine z_iconst hx hb dX1_power_0 ?_
  refine lv_istore_n (lv' := [(3, .int (zI 1)), (0, .int (zI b)), (1, .int (zI e)), (2, .int (zI n))]) hx hb dX1_power_1 rfl hl (by decide) rfl (fun ls hl => ?_)
  have hl := lv_sub hl [1, 2, 3, 0] rfl
  have hl : lv_has ls 5 [(0, .int (zI b)), (1, .int (zI e)), (2, .int (zI n)), (3, .int (zI 1))] := hl
  refine z_bipush hx hb dX1_power_2 (by decide) ?_
  refine lv_istore (lv' := [(4, .int (zI 13)), (0, .int (zI b)), (1, .int (zI e)), (2, .int (zI n)), (3, .int (zI 1))]) hx hb dX1_power_4 hl (by decide) rfl (fun ls hl => ?_)
  have hl := lv_sub hl [1, 2, 3, 4, 0] rfl
  have hl : lv_has ls 5 [(0, .int (zI b)), (1, .int (zI e)), (2, .int (zI n)), (3, .int (zI 1)), (4, .int (zI 13))] := hl
  refine z_loop (σ := Int × Int) (fun (r, j) => (j + 1).toNat) (fun (r, j) H locs ls => (-1 ≤ j ∧ j ≤ 13) ∧ r = pwm b (e / 2 ^ (j + 1).toNat) n ∧ (0 ≤ r ∧ r < n) ∧ va_S A s.heap H locs ∧ lv_has ls 5 [(0, .int (zI b)), (1, .int (zI e)), (2, .int (zI n)), (3, .int (zI r)), (4, .int (zI j))]) (1, 13) ⟨(by decide), (by rw [show (13 + 1 : Int).toNat = 14 from rfl, Int.ediv_eq_zero_of_lt he0.1 (by omega)]; unfold pwm; rw [show (0 : Int).toNat = 0 from rfl, Int.pow_zero, Int.emod_eq_of_lt (by decide) (by omega)]), (by omega), hS, hl⟩ ?_
  intro ⟨r, j⟩ H locs ls hI ih_6
  obtain ⟨hj, hr_, hr2, hS, hl⟩ := hI
  refine lv_iload hx hb dX1_power_6 (lv_at hl 4 rfl) ?_
  refine z_if_lt (tgt := 47) hx hb dX1_power_8 (by decide) (by omega) (fun c_8 => ?_) (fun c_8 => ?_)
  · refine lv_iload_n hx hb dX1_power_47 rfl (lv_at hl 3 rfl) ?_
    have hres : pwm b e n = r := by rw [hr_, show j + 1 = 0 by omega]; show pwm b e n = pwm b (e / 1) n; rw [Int.ediv_one]
    exact z_iret hx hb hr hlocks rfl () (congrArg (fun z => some (Value.int (zI z))) hres) (trivial) z_nilP z_nilD hS dX1_power_48
  · have hj1 : 0 ≤ j := by omega
    refine lv_iload_n hx hb dX1_power_11 rfl (lv_at hl 3 rfl) ?_
    refine z_i2l hx hb dX1_power_12 (by omega) ?_
    refine lv_iload_n hx hb dX1_power_13 rfl (lv_at hl 3 rfl) ?_
    refine z_i2l hx hb dX1_power_14 (by omega) ?_
    refine z_lmul hx hb dX1_power_15 ?_
    refine lv_iload_n hx hb dX1_power_16 rfl (lv_at hl 2 rfl) ?_
    have hRc : va_P D vwCl [] H := z_nilP
    refine z_ro (ws := []) (va_runS (As := [.long (zL (r * r)), .int (zI n)]) (rest := []) CF (c_X1_remainder l D (r * r) n (by have := z_mulb (a := r) (b := r) (A := 2147483646) (B := 2147483646) (by omega) (by omega) (by omega) (by omega); omega) (by omega) H.size) (va_cwS 2 hts gX1_power_X1_remainder rfl rfl rfl (by decide +kernel) ⟨Nat.le_of_ble_eq_true rfl, Nat.le_of_ble_eq_true rfl⟩) (z_preS z_nilP (z_nilD (A := A)) hRc z_noX (hK.sub (tys' := []) [] rfl)) rfl rfl hl.1 rfl (lv_room (Nat.le_of_ble_eq_true rfl)) dX1_power_17 ⟨Nat.le_of_ble_eq_true rfl, Nat.le_of_ble_eq_true rfl⟩) z_nilP hS hA (cells' := 0) (slots' := 0) rfl rfl (fun H locs hP hS => ?_)
    have hq1 := z_rem (a := r * r) (n := n) (by omega)
    refine lv_istore_n (lv' := [(3, .int (zI ((r * r) % n))), (0, .int (zI b)), (1, .int (zI e)), (2, .int (zI n)), (4, .int (zI j))]) hx hb dX1_power_20 rfl hl (by decide) rfl (fun ls hl => ?_)
    have hl := lv_sub hl [1, 2, 3, 0, 4] rfl
    have hl : lv_has ls 5 [(0, .int (zI b)), (1, .int (zI e)), (2, .int (zI n)), (3, .int (zI ((r * r) % n))), (4, .int (zI j))] := hl
    refine lv_iload_n hx hb dX1_power_21 rfl (lv_at hl 1 rfl) ?_
    refine lv_iload hx hb dX1_power_22 (lv_at hl 4 rfl) ?_
    refine z_ishr hx hb dX1_power_24 (by omega) (by omega) ?_
    refine z_iconst hx hb dX1_power_25 ?_
    refine z_iand1 hx hb dX1_power_26 (z_div (by omega) (Int.pow_pos (by decide)) (by omega)) ?_
    refine z_iconst hx hb dX1_power_27 ?_
    refine z_icmp_ne (tgt := 41) hx hb dX1_power_28 (by decide) (by omega) (fun c_28 => ?_) (fun c_28 => ?_)
    · have e1 : (j + -1 + 1).toNat = j.toNat := by omega
      have e2 : (j + 1).toNat = j.toNat + 1 := by omega
      have hst := pwm_step (b := b) (e := e) (n := n) (k := j.toNat) he0.1
      rw [← e2, ← hr_] at hst
      first | rw [if_pos c_28] at hst | rw [if_neg c_28] at hst
      refine lv_iinc (v := zI (j + (-1))) (lv' := [(4, .int (zI (j + (-1)))), (0, .int (zI b)), (1, .int (zI e)), (2, .int (zI n)), (3, .int (zI ((r * r) % n)))]) hx hb dX1_power_41 hl (k := 4) rfl (zI_add _ _) (by decide) rfl (fun ls hl => ?_)
      have hl := lv_sub hl [1, 2, 3, 4, 0] rfl
      have hl : lv_has ls 5 [(0, .int (zI b)), (1, .int (zI e)), (2, .int (zI n)), (3, .int (zI ((r * r) % n))), (4, .int (zI (j + (-1))))] := hl
      refine lv_goto (tgt := 6) hx hb dX1_power_44 (by decide) ?_
      exact ih_6 ((r * r) % n, j + (-1)) _ _ _ ⟨(by omega), (by rw [e1]; exact hst.symm), (by exact z_rem (by omega)), hS, hl⟩ (by show ((j + (-1)) + 1).toNat < (j + 1).toNat; omega)
    · refine lv_iload_n hx hb dX1_power_31 rfl (lv_at hl 3 rfl) ?_
      refine z_i2l hx hb dX1_power_32 (by omega) ?_
      refine lv_iload_n hx hb dX1_power_33 rfl (lv_at hl 0 rfl) ?_
      refine z_i2l hx hb dX1_power_34 (by omega) ?_
      refine z_lmul hx hb dX1_power_35 ?_
      refine lv_iload_n hx hb dX1_power_36 rfl (lv_at hl 2 rfl) ?_
      have hRc : va_P D vwCl [] H := z_nilP
      refine z_ro (ws := []) (va_runS (As := [.long (zL (((r * r) % n) * b)), .int (zI n)]) (rest := []) CF (c_X1_remainder l D (((r * r) % n) * b) n (by have h1 := z_rem (a := r * r) (n := n) (by omega); have := z_mulb (a := r * r % n) (b := b) (A := 2147483646) (B := 2147483647) (by omega) (by omega) (by omega) (by omega); omega) (by omega) H.size) (va_cwS 2 hts gX1_power_X1_remainder rfl rfl rfl (by decide +kernel) ⟨Nat.le_of_ble_eq_true rfl, Nat.le_of_ble_eq_true rfl⟩) (z_preS z_nilP (z_nilD (A := A)) hRc z_noX (hK.sub (tys' := []) [] rfl)) rfl rfl hl.1 rfl (lv_room (Nat.le_of_ble_eq_true rfl)) dX1_power_37 ⟨Nat.le_of_ble_eq_true rfl, Nat.le_of_ble_eq_true rfl⟩) z_nilP hS hA (cells' := 0) (slots' := 0) rfl rfl (fun H locs hP hS => ?_)
      refine lv_istore_n (lv' := [(3, .int (zI ((((r * r) % n) * b) % n))), (0, .int (zI b)), (1, .int (zI e)), (2, .int (zI n)), (4, .int (zI j))]) hx hb dX1_power_40 rfl hl (by decide) rfl (fun ls hl => ?_)
      have hl := lv_sub hl [1, 2, 3, 0, 4] rfl
      have hl : lv_has ls 5 [(0, .int (zI b)), (1, .int (zI e)), (2, .int (zI n)), (3, .int (zI ((((r * r) % n) * b) % n))), (4, .int (zI j))] := hl
      have e1 : (j + -1 + 1).toNat = j.toNat := by omega
      have e2 : (j + 1).toNat = j.toNat + 1 := by omega
      have hst := pwm_step (b := b) (e := e) (n := n) (k := j.toNat) he0.1
      rw [← e2, ← hr_] at hst
      first | rw [if_pos c_28] at hst | rw [if_neg c_28] at hst
      refine lv_iinc (v := zI (j + (-1))) (lv' := [(4, .int (zI (j + (-1)))), (0, .int (zI b)), (1, .int (zI e)), (2, .int (zI n)), (3, .int (zI ((((r * r) % n) * b) % n)))]) hx hb dX1_power_41 hl (k := 4) rfl (zI_add _ _) (by decide) rfl (fun ls hl => ?_)
      have hl := lv_sub hl [1, 2, 3, 4, 0] rfl
      have hl : lv_has ls 5 [(0, .int (zI b)), (1, .int (zI e)), (2, .int (zI n)), (3, .int (zI ((((r * r) % n) * b) % n))), (4, .int (zI (j + (-1))))] := hl
      refine lv_goto (tgt := 6) hx hb dX1_power_44 (by decide) ?_
      exact ih_6 ((((r * r) % n) * b) % n, j + (-1)) _ _ _ ⟨(by omega), (by rw [e1]; exact hst.symm), (by exact z_rem (by omega)), hS, hl⟩ (by show ((j + (-1)) + 1).toNat < (j + 1).toNat; omega)

set_option maxHeartbeats 4000000 in
set_option maxRecDepth 100000 in
theorem c_X1_leastFactor (l : Launch) (D : va_G) (n : Int) (hn : 1 ≤ n ∧ n ≤ 10000) : zF l yX1_leastFactor wsX1_leastFactor ({ frames := 1, cells := 0, slots := 0, locals := 13 } : Room) D [] [] [.int (zI n)] (some (.int (zI (lfac n)))) := by
  refine z_start (cc := cX1_leastFactor) (maxL := 2) (ret := (some .int)) (own := RX1) (by decide) rfl rfl (Nat.le_of_ble_eq_true rfl) [(0, .int (zI n))] rfl ?_
  intro pp ee s mm below meth cc A H ls hx hb hr hml hts hown hlocks hin hK hA hP hD hS hR0 hR hl
  have CF : CallFix pp mm cc cX1_leastFactor 2 s ([.int (zI n)] : List Value).toArray wsX1_leastFactor RX1 := ⟨hx, hb, hml, hown, hts⟩
  refine z_iconst hx hb dX1_leastFactor_0 ?_
  refine lv_istore_n (lv' := [(1, .int (zI 2)), (0, .int (zI n))]) hx hb dX1_leastFactor_1 rfl hl (by decide) rfl (fun ls hl => ?_)
  have hl := lv_sub hl [1, 0] rfl
  have hl : lv_has ls 2 [(0, .int (zI n)), (1, .int (zI 2))] := hl
  refine z_loop (σ := Int) (fun d => (202 - d).toNat) (fun d H locs ls => (2 ≤ d ∧ d ≤ 101) ∧ lfac n = lfN (202 - d).toNat d n ∧ va_S A s.heap H locs ∧ lv_has ls 2 [(0, .int (zI n)), (1, .int (zI d))]) 2 ⟨(by decide), (by show lfN 200 2 n = lfN ((202 : Int) - 2).toNat 2 n; rw [show ((202 : Int) - 2).toNat = 200 from by decide]), hS, hl⟩ ?_
  intro d H locs ls hI ih_2
  obtain ⟨hd_, hf, hS, hl⟩ := hI
  have hsq := z_mulb (a := d) (b := d) (A := 101) (B := 101) (by omega) (by omega) (by omega) (by omega)
  have e1 : (202 - d).toNat = (202 - (d + 1)).toNat + 1 := by omega
  refine lv_iload_n hx hb dX1_leastFactor_2 rfl (lv_at hl 1 rfl) ?_
  refine lv_iload_n hx hb dX1_leastFactor_3 rfl (lv_at hl 1 rfl) ?_
  refine z_imul hx hb dX1_leastFactor_4 ?_
  refine lv_iload_n hx hb dX1_leastFactor_5 rfl (lv_at hl 0 rfl) ?_
  refine z_icmp_gt (tgt := 23) hx hb dX1_leastFactor_6 (by decide) (by omega) (fun c_6 => ?_) (fun c_6 => ?_)
  · refine lv_iload_n hx hb dX1_leastFactor_23 rfl (lv_at hl 0 rfl) ?_
    refine z_iconst hx hb dX1_leastFactor_24 ?_
    refine z_mmax hx hb (hml.trans hl.1.symm) hown (hts (.methodLink RX1 13 Lib.Math.max.name) (by decide +kernel)) (hts (.static Lib.Math.max.name) (by decide +kernel)) (hts (.initialized "java/lang/Math") (by decide +kernel)) (hts (.code Lib.Math.max.name Lib.Math.max.code 2 (some .int)) (by decide +kernel)) (Nat.le_of_ble_eq_true rfl) (Nat.le_of_ble_eq_true rfl) (Nat.le_of_ble_eq_true rfl) (Nat.le_of_ble_eq_true rfl) (by omega) dX1_leastFactor_25 ?_
    have hres : lfac n = max n 2 := by rw [hf, lfN_step e1, if_neg (by omega)]
    exact z_iret hx hb hr hlocks rfl () (congrArg (fun z => some (Value.int (zI z))) hres) (trivial) z_nilP z_nilD hS dX1_leastFactor_28
  · refine lv_iload_n hx hb dX1_leastFactor_9 rfl (lv_at hl 0 rfl) ?_
    refine lv_iload_n hx hb dX1_leastFactor_10 rfl (lv_at hl 1 rfl) ?_
    refine z_irem hx hb dX1_leastFactor_11 (by omega) (by omega) ?_
    have hm_11 := z_rem (a := n) (n := d) (by omega)
    refine z_if_ne (tgt := 17) hx hb dX1_leastFactor_12 (by decide) (by omega) (fun c_12 => ?_) (fun c_12 => ?_)
    · refine lv_iinc (v := zI (d + 1)) (lv' := [(1, .int (zI (d + 1))), (0, .int (zI n))]) hx hb dX1_leastFactor_17 hl (k := 1) rfl (zI_add _ _) (by decide) rfl (fun ls hl => ?_)
      have hl := lv_sub hl [1, 0] rfl
      have hl : lv_has ls 2 [(0, .int (zI n)), (1, .int (zI (d + 1)))] := hl
      refine lv_goto (tgt := 2) hx hb dX1_leastFactor_20 (by decide) ?_
      exact ih_2 (d + 1) _ _ _ ⟨(by have := z_sq (d := d) (by omega) (by omega); omega), (by rw [hf, lfN_step e1, if_pos c_6, if_neg c_12]), hS, hl⟩ (by show (202 - (d + 1)).toNat < (202 - d).toNat; omega)
    · refine lv_iload_n hx hb dX1_leastFactor_15 rfl (lv_at hl 1 rfl) ?_
      have hres : lfac n = d := by rw [hf, lfN_step e1, if_pos c_6, if_pos c_12]
      exact z_iret hx hb hr hlocks rfl () (congrArg (fun z => some (Value.int (zI z))) hres) (trivial) z_nilP z_nilD hS dX1_leastFactor_16

set_option maxHeartbeats 4000000 in
set_option maxRecDepth 100000 in
theorem c_X1_isPrime (l : Launch) (D : va_G) (n : Int) (hn : 1 ≤ n ∧ n ≤ 10000) : zF l yX1_isPrime wsX1_isPrime ({ frames := 2, cells := 0, slots := 0, locals := 34 } : Room) D [] [] [.int (zI n)] (some (.int (zI (zB (1 < n ∧ lfac n = n))))) := by
  refine z_start (cc := cX1_isPrime) (maxL := 1) (ret := (some .boolean)) (own := RX1) (by decide) rfl rfl (Nat.le_of_ble_eq_true rfl) [(0, .int (zI n))] rfl ?_
  intro pp ee s mm below meth cc A H ls hx hb hr hml hts hown hlocks hin hK hA hP hD hS hR0 hR hl
  have CF : CallFix pp mm cc cX1_isPrime 1 s ([.int (zI n)] : List Value).toArray wsX1_isPrime RX1 := ⟨hx, hb, hml, hown, hts⟩
  refine lv_iload_n hx hb dX1_isPrime_0 rfl (lv_at hl 0 rfl) ?_
  refine z_iconst hx hb dX1_isPrime_1 ?_
  refine z_icmp_le (tgt := 17) hx hb dX1_isPrime_2 (by decide) (by omega) (fun c_2 => ?_) (fun c_2 => ?_)
  · refine z_iconst hx hb dX1_isPrime_17 ?_
    have hres : zB (1 < n ∧ lfac n = n) = 0 := by rw [zB_f (by omega)]
    exact z_iret hx hb hr hlocks (rfl) () (congrArg (fun z => some (Value.int (zI z))) hres) (trivial) z_nilP z_nilD hS dX1_isPrime_18
  · refine lv_iload_n hx hb dX1_isPrime_5 rfl (lv_at hl 0 rfl) ?_
    have hRc : va_P D vwCl [] H := z_nilP
    refine z_ro (ws := []) (va_runS (As := [.int (zI n)]) (rest := []) CF (c_X1_leastFactor l D n (by omega) H.size) (va_cwS 1 hts gX1_isPrime_X1_leastFactor rfl rfl rfl (by decide +kernel) ⟨Nat.le_of_ble_eq_true rfl, Nat.le_of_ble_eq_true rfl⟩) (z_preS z_nilP (z_nilD (A := A)) hRc z_noX (hK.sub (tys' := []) [] rfl)) rfl rfl hl.1 rfl (lv_room (Nat.le_of_ble_eq_true rfl)) dX1_isPrime_6 ⟨Nat.le_of_ble_eq_true rfl, Nat.le_of_ble_eq_true rfl⟩) z_nilP hS hA (cells' := 0) (slots' := 0) rfl rfl (fun H locs hP hS => ?_)
    have hlf := lfac_rng (n := n) (by omega)
    refine lv_iload_n hx hb dX1_isPrime_9 rfl (lv_at hl 0 rfl) ?_
    refine z_icmp_ne (tgt := 17) hx hb dX1_isPrime_10 (by decide) (by omega) (fun c_10 => ?_) (fun c_10 => ?_)
    · refine z_iconst hx hb dX1_isPrime_17 ?_
      have hres : zB (1 < n ∧ lfac n = n) = 0 := by rw [zB_f (by omega)]
      exact z_iret hx hb hr hlocks (rfl) () (congrArg (fun z => some (Value.int (zI z))) hres) (trivial) z_nilP z_nilD hS dX1_isPrime_18
    · refine z_iconst hx hb dX1_isPrime_13 ?_
      refine lv_goto (tgt := 18) hx hb dX1_isPrime_14 (by decide) ?_
      have hres : zB (1 < n ∧ lfac n = n) = 1 := by rw [zB_t ⟨c_2, c_10⟩]
      exact z_iret hx hb hr hlocks (rfl) () (congrArg (fun z => some (Value.int (zI z))) hres) (trivial) z_nilP z_nilD hS dX1_isPrime_18

set_option maxHeartbeats 4000000 in
set_option maxRecDepth 100000 in
theorem c_X1_leastPrimePart (l : Launch) (D : va_G) (n : Int) (hn : 1 ≤ n ∧ n ≤ 10000) : zF l yX1_leastPrimePart wsX1_leastPrimePart ({ frames := 2, cells := 0, slots := 0, locals := 34 } : Room) D [] [] [.int (zI n)] (some (.int (zI (lpp n)))) := by
  refine z_start (cc := cX1_leastPrimePart) (maxL := 4) (ret := (some .int)) (own := RX1) (by decide) rfl rfl (Nat.le_of_ble_eq_true rfl) [(0, .int (zI n))] rfl ?_
  intro pp ee s mm below meth cc A H ls hx hb hr hml hts hown hlocks hin hK hA hP hD hS hR0 hR hl
  have CF : CallFix pp mm cc cX1_leastPrimePart 4 s ([.int (zI n)] : List Value).toArray wsX1_leastPrimePart RX1 := ⟨hx, hb, hml, hown, hts⟩
  refine lv_iload_n hx hb dX1_leastPrimePart_0 rfl (lv_at hl 0 rfl) ?_
  have hRc : va_P D vwCl [] H := z_nilP
  refine z_ro (ws := []) (va_runS (As := [.int (zI n)]) (rest := []) CF (c_X1_leastFactor l D n (by omega) H.size) (va_cwS 1 hts gX1_leastPrimePart_X1_leastFactor rfl rfl rfl (by decide +kernel) ⟨Nat.le_of_ble_eq_true rfl, Nat.le_of_ble_eq_true rfl⟩) (z_preS z_nilP (z_nilD (A := A)) hRc z_noX (hK.sub (tys' := []) [] rfl)) rfl rfl hl.1 rfl (lv_room (Nat.le_of_ble_eq_true rfl)) dX1_leastPrimePart_1 ⟨Nat.le_of_ble_eq_true rfl, Nat.le_of_ble_eq_true rfl⟩) z_nilP hS hA (cells' := 0) (slots' := 0) rfl rfl (fun H locs hP hS => ?_)
  have hlf := lfac_rng (n := n) (by omega)
  refine lv_istore_n (lv' := [(1, .int (zI (lfac n))), (0, .int (zI n))]) hx hb dX1_leastPrimePart_4 rfl hl (by decide) rfl (fun ls hl => ?_)
  have hl := lv_sub hl [1, 0] rfl
  have hl : lv_has ls 4 [(0, .int (zI n)), (1, .int (zI (lfac n)))] := hl
  refine z_iconst hx hb dX1_leastPrimePart_5 ?_
  refine lv_istore_n (lv' := [(2, .int (zI 1)), (0, .int (zI n)), (1, .int (zI (lfac n)))]) hx hb dX1_leastPrimePart_6 rfl hl (by decide) rfl (fun ls hl => ?_)
  have hl := lv_sub hl [1, 2, 0] rfl
  have hl : lv_has ls 4 [(0, .int (zI n)), (1, .int (zI (lfac n))), (2, .int (zI 1))] := hl
  refine z_iconst hx hb dX1_leastPrimePart_7 ?_
  refine lv_istore_n (lv' := [(3, .int (zI 0)), (0, .int (zI n)), (1, .int (zI (lfac n))), (2, .int (zI 1))]) hx hb dX1_leastPrimePart_8 rfl hl (by decide) rfl (fun ls hl => ?_)
  have hl := lv_sub hl [1, 2, 3, 0] rfl
  have hl : lv_has ls 4 [(0, .int (zI n)), (1, .int (zI (lfac n))), (2, .int (zI 1)), (3, .int (zI 0))] := hl
  refine z_loop (σ := Int × Int) (fun (a, t) => (14 - t).toNat) (fun (a, t) H locs ls => (1 ≤ a ∧ a ≤ n) ∧ (0 ≤ t ∧ t ≤ 14) ∧ lpp n = lppN n (lfac n) (14 - t).toNat a ∧ va_S A s.heap H locs ∧ lv_has ls 4 [(0, .int (zI n)), (1, .int (zI (lfac n))), (2, .int (zI a)), (3, .int (zI t))]) (1, 0) ⟨(by omega), (by decide), (by show lppN n (lfac n) 14 1 = lppN n (lfac n) ((14 : Int) - 0).toNat 1; rw [show ((14 : Int) - 0).toNat = 14 from by decide]), hS, hl⟩ ?_
  intro ⟨a, t⟩ H locs ls hI ih_9
  obtain ⟨ha_, ht, hf, hS, hl⟩ := hI
  have hm1 := z_mulb (a := a) (b := lfac n) (A := 10000) (B := 10000) (by omega) (by omega) (by omega) (by omega)
  have hm2 : 1 * 1 ≤ a * lfac n := Int.mul_le_mul (by omega) (by omega) (by omega) (by omega)
  refine lv_iload_n hx hb dX1_leastPrimePart_9 rfl (lv_at hl 3 rfl) ?_
  refine z_bipush hx hb dX1_leastPrimePart_10 (by decide) ?_
  refine z_icmp_ge (tgt := 33) hx hb dX1_leastPrimePart_12 (by decide) (by omega) (fun c_12 => ?_) (fun c_12 => ?_)
  · refine lv_iload_n hx hb dX1_leastPrimePart_33 rfl (lv_at hl 2 rfl) ?_
    have hres : lpp n = a := by first | (rw [hf, show (14 - t).toNat = 0 by omega]; rfl) | (rw [hf, lppN_step (k := (14 - t).toNat) (k' := (13 - t).toNat) (by omega), if_neg c_20])
    exact z_iret hx hb hr hlocks rfl () (congrArg (fun z => some (Value.int (zI z))) hres) (trivial) z_nilP z_nilD hS dX1_leastPrimePart_34
  · refine lv_iload_n hx hb dX1_leastPrimePart_15 rfl (lv_at hl 0 rfl) ?_
    refine lv_iload_n hx hb dX1_leastPrimePart_16 rfl (lv_at hl 2 rfl) ?_
    refine lv_iload_n hx hb dX1_leastPrimePart_17 rfl (lv_at hl 1 rfl) ?_
    refine z_imul hx hb dX1_leastPrimePart_18 ?_
    refine z_irem hx hb dX1_leastPrimePart_19 (by omega) (by omega) ?_
    have hm_19 := z_rem (a := n) (n := a * (lfac n)) (by omega)
    refine z_if_ne (tgt := 33) hx hb dX1_leastPrimePart_20 (by decide) (by omega) (fun c_20 => ?_) (fun c_20 => ?_)
    · refine lv_iload_n hx hb dX1_leastPrimePart_33 rfl (lv_at hl 2 rfl) ?_
      have hres : lpp n = a := by first | (rw [hf, show (14 - t).toNat = 0 by omega]; rfl) | (rw [hf, lppN_step (k := (14 - t).toNat) (k' := (13 - t).toNat) (by omega), if_neg c_20])
      exact z_iret hx hb hr hlocks rfl () (congrArg (fun z => some (Value.int (zI z))) hres) (trivial) z_nilP z_nilD hS dX1_leastPrimePart_34
    · refine lv_iload_n hx hb dX1_leastPrimePart_23 rfl (lv_at hl 2 rfl) ?_
      refine lv_iload_n hx hb dX1_leastPrimePart_24 rfl (lv_at hl 1 rfl) ?_
      refine z_imul hx hb dX1_leastPrimePart_25 ?_
      refine lv_istore_n (lv' := [(2, .int (zI (a * (lfac n)))), (0, .int (zI n)), (1, .int (zI (lfac n))), (3, .int (zI t))]) hx hb dX1_leastPrimePart_26 rfl hl (by decide) rfl (fun ls hl => ?_)
      have hl := lv_sub hl [1, 2, 0, 3] rfl
      have hl : lv_has ls 4 [(0, .int (zI n)), (1, .int (zI (lfac n))), (2, .int (zI (a * (lfac n)))), (3, .int (zI t))] := hl
      refine lv_iinc (v := zI (t + 1)) (lv' := [(3, .int (zI (t + 1))), (0, .int (zI n)), (1, .int (zI (lfac n))), (2, .int (zI (a * (lfac n))))]) hx hb dX1_leastPrimePart_27 hl (k := 3) rfl (zI_add _ _) (by decide) rfl (fun ls hl => ?_)
      have hl := lv_sub hl [1, 2, 3, 0] rfl
      have hl : lv_has ls 4 [(0, .int (zI n)), (1, .int (zI (lfac n))), (2, .int (zI (a * (lfac n)))), (3, .int (zI (t + 1)))] := hl
      refine lv_goto (tgt := 9) hx hb dX1_leastPrimePart_30 (by decide) ?_
      exact ih_9 (a * (lfac n), t + 1) _ _ _ ⟨(by have h1 := z_dle (n := n) (by omega) c_20; have h2 : 1 * 1 ≤ a * lfac n := Int.mul_le_mul (by omega) (by omega) (by omega) (by omega); omega), (by omega), (by rw [hf, lppN_step (k := (14 - t).toNat) (k' := (14 - (t + 1)).toNat) (by omega), if_pos c_20]), hS, hl⟩ (by show (14 - (t + 1)).toNat < (14 - t).toNat; omega)

set_option maxHeartbeats 4000000 in
set_option maxRecDepth 100000 in
theorem c_X1_isPrimitiveRoot (l : Launch) (D : va_G) (b : Int) (q : Int) (hb0 : 0 ≤ b ∧ b ≤ 2147483647) (hq : 2 ≤ q ∧ q ≤ 10000) : zF l yX1_isPrimitiveRoot wsX1_isPrimitiveRoot ({ frames := 2, cells := 0, slots := 0, locals := 48 } : Room) D [] [] [.int (zI b), .int (zI q)] (some (.int (zI (zB (iprB b q 14 (q - 1) = true))))) := by
  refine z_start (cc := cX1_isPrimitiveRoot) (maxL := 5) (ret := (some .boolean)) (own := RX1) (by decide) rfl rfl (Nat.le_of_ble_eq_true rfl) [(0, .int (zI b)), (1, .int (zI q))] rfl ?_
  intro pp ee s mm below meth cc A H ls hx hb hr hml hts hown hlocks hin hK hA hP hD hS hR0 hR hl
  have CF : CallFix pp mm cc cX1_isPrimitiveRoot 5 s ([.int (zI b), .int (zI q)] : List Value).toArray wsX1_isPrimitiveRoot RX1 := ⟨hx, hb, hml, hown, hts⟩
  refine lv_iload_n hx hb dX1_isPrimitiveRoot_0 rfl (lv_at hl 1 rfl) ?_
  refine z_iconst hx hb dX1_isPrimitiveRoot_1 ?_
  refine z_isub hx hb dX1_isPrimitiveRoot_2 ?_
  refine lv_istore_n (lv' := [(2, .int (zI (q - 1))), (0, .int (zI b)), (1, .int (zI q))]) hx hb dX1_isPrimitiveRoot_3 rfl hl (by decide) rfl (fun ls hl => ?_)
  have hl := lv_sub hl [1, 2, 0] rfl
  have hl : lv_has ls 5 [(0, .int (zI b)), (1, .int (zI q)), (2, .int (zI (q - 1)))] := hl
  refine z_iconst hx hb dX1_isPrimitiveRoot_4 ?_
  refine lv_istore_n (lv' := [(3, .int (zI 0)), (0, .int (zI b)), (1, .int (zI q)), (2, .int (zI (q - 1)))]) hx hb dX1_isPrimitiveRoot_5 rfl hl (by decide) rfl (fun ls hl => ?_)
  have hl := lv_sub hl [1, 2, 3, 0] rfl
  have hl : lv_has ls 5 [(0, .int (zI b)), (1, .int (zI q)), (2, .int (zI (q - 1))), (3, .int (zI 0))] := hl
  refine z_loop (σ := Int × Int) (fun (r, t) => (14 - t).toNat) (fun (r, t) H locs ls => (1 ≤ r ∧ r ≤ 10000) ∧ (0 ≤ t ∧ t ≤ 14) ∧ iprB b q 14 (q - 1) = iprB b q (14 - t).toNat r ∧ va_S A s.heap H locs ∧ lv_has ls 5 [(0, .int (zI b)), (1, .int (zI q)), (2, .int (zI r)), (3, .int (zI t))]) (q - 1, 0) ⟨(by omega), (by decide), (by show iprB b q 14 (q - 1) = iprB b q ((14 : Int) - 0).toNat (q - 1); rw [show ((14 : Int) - 0).toNat = 14 from by decide]), hS, hl⟩ ?_
  intro ⟨r, t⟩ H locs ls hI ih_6
  obtain ⟨hr1, ht, hf, hS, hl⟩ := hI
  refine lv_iload_n hx hb dX1_isPrimitiveRoot_6 rfl (lv_at hl 3 rfl) ?_
  refine z_bipush hx hb dX1_isPrimitiveRoot_7 (by decide) ?_
  refine z_icmp_ge (tgt := 51) hx hb dX1_isPrimitiveRoot_9 (by decide) (by omega) (fun c_9 => ?_) (fun c_9 => ?_)
  · refine z_iconst hx hb dX1_isPrimitiveRoot_51 ?_
    have hres : zB (iprB b q 14 (q - 1) = true) = 1 := by rw [zB_t]; first | (rw [hf, show (14 - t).toNat = 0 by omega]; rfl) | (rw [hf, iprB_step (k := (14 - t).toNat) (k' := (14 - (t + 1)).toNat) (by omega), if_neg (by omega)])
    exact z_iret hx hb hr hlocks (rfl) () (congrArg (fun z => some (Value.int (zI z))) hres) (trivial) z_nilP z_nilD hS dX1_isPrimitiveRoot_52
  · refine lv_iload_n hx hb dX1_isPrimitiveRoot_12 rfl (lv_at hl 2 rfl) ?_
    refine z_iconst hx hb dX1_isPrimitiveRoot_13 ?_
    refine z_icmp_le (tgt := 51) hx hb dX1_isPrimitiveRoot_14 (by decide) (by omega) (fun c_14 => ?_) (fun c_14 => ?_)
    · refine z_iconst hx hb dX1_isPrimitiveRoot_51 ?_
      have hres : zB (iprB b q 14 (q - 1) = true) = 1 := by rw [zB_t]; first | (rw [hf, show (14 - t).toNat = 0 by omega]; rfl) | (rw [hf, iprB_step (k := (14 - t).toNat) (k' := (14 - (t + 1)).toNat) (by omega), if_neg (by omega)])
      exact z_iret hx hb hr hlocks (rfl) () (congrArg (fun z => some (Value.int (zI z))) hres) (trivial) z_nilP z_nilD hS dX1_isPrimitiveRoot_52
    · refine lv_iload_n hx hb dX1_isPrimitiveRoot_17 rfl (lv_at hl 2 rfl) ?_
      have hRc : va_P D vwCl [] H := z_nilP
      refine z_ro (ws := []) (va_runS (As := [.int (zI r)]) (rest := []) CF (c_X1_leastFactor l D r (by omega) H.size) (va_cwS 1 hts gX1_isPrimitiveRoot_X1_leastFactor rfl rfl rfl (by decide +kernel) ⟨Nat.le_of_ble_eq_true rfl, Nat.le_of_ble_eq_true rfl⟩) (z_preS z_nilP (z_nilD (A := A)) hRc z_noX (hK.sub (tys' := []) [] rfl)) rfl rfl hl.1 rfl (lv_room (Nat.le_of_ble_eq_true rfl)) dX1_isPrimitiveRoot_18 ⟨Nat.le_of_ble_eq_true rfl, Nat.le_of_ble_eq_true rfl⟩) z_nilP hS hA (cells' := 0) (slots' := 0) rfl rfl (fun H locs hP hS => ?_)
      have hlf := lfac_rng (n := r) (by omega)
      have hdv := z_div (a := q - 1) (b := lfac r) (A := 10000) (by omega) (by omega) (by omega)
      refine lv_istore (lv' := [(4, .int (zI (lfac r))), (0, .int (zI b)), (1, .int (zI q)), (2, .int (zI r)), (3, .int (zI t))]) hx hb dX1_isPrimitiveRoot_21 hl (by decide) rfl (fun ls hl => ?_)
      have hl := lv_sub hl [1, 2, 3, 4, 0] rfl
      have hl : lv_has ls 5 [(0, .int (zI b)), (1, .int (zI q)), (2, .int (zI r)), (3, .int (zI t)), (4, .int (zI (lfac r)))] := hl
      refine lv_iload_n hx hb dX1_isPrimitiveRoot_23 rfl (lv_at hl 0 rfl) ?_
      refine lv_iload_n hx hb dX1_isPrimitiveRoot_24 rfl (lv_at hl 1 rfl) ?_
      refine z_iconst hx hb dX1_isPrimitiveRoot_25 ?_
      refine z_isub hx hb dX1_isPrimitiveRoot_26 ?_
      refine lv_iload hx hb dX1_isPrimitiveRoot_27 (lv_at hl 4 rfl) ?_
      refine z_idiv hx hb dX1_isPrimitiveRoot_29 (by omega) (by omega) ?_
      have hpw := pwm_rng (b := b) (e := (q - 1) / lfac r) (n := q) (by omega)
      refine lv_iload_n hx hb dX1_isPrimitiveRoot_30 rfl (lv_at hl 1 rfl) ?_
      have hRc : va_P D vwCl [] H := z_nilP
      refine z_ro (ws := []) (va_runS (As := [.int (zI b), .int (zI ((q - 1) / (lfac r))), .int (zI q)]) (rest := []) CF (c_X1_power l D b ((q - 1) / (lfac r)) q (by omega) (by omega) (by omega) H.size) (va_cwS 3 hts gX1_isPrimitiveRoot_X1_power rfl rfl rfl (by decide +kernel) ⟨Nat.le_of_ble_eq_true rfl, Nat.le_of_ble_eq_true rfl⟩) (z_preS z_nilP (z_nilD (A := A)) hRc z_noX (hK.sub (tys' := []) [] rfl)) rfl rfl hl.1 rfl (lv_room (Nat.le_of_ble_eq_true rfl)) dX1_isPrimitiveRoot_31 ⟨Nat.le_of_ble_eq_true rfl, Nat.le_of_ble_eq_true rfl⟩) z_nilP hS hA (cells' := 0) (slots' := 0) rfl rfl (fun H locs hP hS => ?_)
      refine z_iconst hx hb dX1_isPrimitiveRoot_34 ?_
      refine z_icmp_ne (tgt := 40) hx hb dX1_isPrimitiveRoot_35 (by decide) (by omega) (fun c_35 => ?_) (fun c_35 => ?_)
      · refine lv_iload_n hx hb dX1_isPrimitiveRoot_40 rfl (lv_at hl 2 rfl) ?_
        refine lv_iload hx hb dX1_isPrimitiveRoot_41 (lv_at hl 4 rfl) ?_
        refine z_idiv hx hb dX1_isPrimitiveRoot_43 (by omega) (by omega) ?_
        refine lv_istore_n (lv' := [(2, .int (zI (r / (lfac r)))), (0, .int (zI b)), (1, .int (zI q)), (3, .int (zI t)), (4, .int (zI (lfac r)))]) hx hb dX1_isPrimitiveRoot_44 rfl hl (by decide) rfl (fun ls hl => ?_)
        have hl := lv_sub hl [1, 2, 0, 3, 4] rfl
        have hl : lv_has ls 5 [(0, .int (zI b)), (1, .int (zI q)), (2, .int (zI (r / (lfac r)))), (3, .int (zI t)), (4, .int (zI (lfac r)))] := hl
        refine lv_iinc (v := zI (t + 1)) (lv' := [(3, .int (zI (t + 1))), (0, .int (zI b)), (1, .int (zI q)), (2, .int (zI (r / (lfac r)))), (4, .int (zI (lfac r)))]) hx hb dX1_isPrimitiveRoot_45 hl (k := 3) rfl (zI_add _ _) (by decide) rfl (fun ls hl => ?_)
        have hl := lv_sub hl [1, 2, 3, 0, 4] rfl
        have hl : lv_has ls 5 [(0, .int (zI b)), (1, .int (zI q)), (2, .int (zI (r / (lfac r)))), (3, .int (zI (t + 1))), (4, .int (zI (lfac r)))] := hl
        refine lv_goto (tgt := 6) hx hb dX1_isPrimitiveRoot_48 (by decide) ?_
        exact ih_6 (r / (lfac r), t + 1) _ _ _ ⟨(by have h1 : 1 ≤ r / lfac r := (by rw [Int.le_ediv_iff_mul_le (by omega)]; omega); have h2 := z_div (a := r) (b := lfac r) (A := 10000) (by omega) (by omega) (by omega); omega), (by omega), (by rw [hf, iprB_step (k := (14 - t).toNat) (k' := (14 - (t + 1)).toNat) (by omega), if_pos c_14, decide_eq_true c_35, Bool.true_and]), hS, lv_sub hl [0, 1, 2, 3] rfl⟩ (by show (14 - (t + 1)).toNat < (14 - t).toNat; omega)
      · refine z_iconst hx hb dX1_isPrimitiveRoot_38 ?_
        have hres : zB (iprB b q 14 (q - 1) = true) = 0 := by rw [zB_f (by rw [hf, iprB_step (k := (14 - t).toNat) (k' := (14 - (t + 1)).toNat) (by omega), if_pos c_14, decide_eq_false (fun z => z c_35), Bool.false_and]; decide)]
        exact z_iret hx hb hr hlocks (rfl) () (congrArg (fun z => some (Value.int (zI z))) hres) (trivial) z_nilP z_nilD hS dX1_isPrimitiveRoot_39

set_option maxHeartbeats 4000000 in
set_option maxRecDepth 100000 in
theorem c_X1_leastPrimitiveRoot (l : Launch) (D : va_G) (q : Int) (hq : 2 ≤ q ∧ q ≤ 10000) : zF l yX1_leastPrimitiveRoot wsX1_leastPrimitiveRoot ({ frames := 3, cells := 0, slots := 0, locals := 72 } : Room) D [] [] [.int (zI q)] (some (.int (zI (lpr q)))) := by
  refine z_start (cc := cX1_leastPrimitiveRoot) (maxL := 2) (ret := (some .int)) (own := RX1) (by decide) rfl rfl (Nat.le_of_ble_eq_true rfl) [(0, .int (zI q))] rfl ?_
  intro pp ee s mm below meth cc A H ls hx hb hr hml hts hown hlocks hin hK hA hP hD hS hR0 hR hl
  have CF : CallFix pp mm cc cX1_leastPrimitiveRoot 2 s ([.int (zI q)] : List Value).toArray wsX1_leastPrimitiveRoot RX1 := ⟨hx, hb, hml, hown, hts⟩
  refine z_iconst hx hb dX1_leastPrimitiveRoot_0 ?_
  refine lv_istore_n (lv' := [(1, .int (zI 1)), (0, .int (zI q))]) hx hb dX1_leastPrimitiveRoot_1 rfl hl (by decide) rfl (fun ls hl => ?_)
  have hl := lv_sub hl [1, 0] rfl
  have hl : lv_has ls 2 [(0, .int (zI q)), (1, .int (zI 1))] := hl
  refine z_loop (σ := Int) (fun b => (10001 - b).toNat) (fun b H locs ls => (1 ≤ b ∧ b ≤ q) ∧ lpr q = lprN q (10001 - b).toNat b ∧ va_S A s.heap H locs ∧ lv_has ls 2 [(0, .int (zI q)), (1, .int (zI b))]) 1 ⟨(by omega), (by show lprN q 10000 1 = lprN q ((10001 : Int) - 1).toNat 1; rw [show ((10001 : Int) - 1).toNat = 10000 from by decide]), hS, hl⟩ ?_
  intro b H locs ls hI ih_2
  obtain ⟨hb_, hf, hS, hl⟩ := hI
  refine lv_iload_n hx hb dX1_leastPrimitiveRoot_2 rfl (lv_at hl 1 rfl) ?_
  refine lv_iload_n hx hb dX1_leastPrimitiveRoot_3 rfl (lv_at hl 0 rfl) ?_
  refine z_icmp_ge (tgt := 23) hx hb dX1_leastPrimitiveRoot_4 (by decide) (by omega) (fun c_4 => ?_) (fun c_4 => ?_)
  · refine z_iconst hx hb dX1_leastPrimitiveRoot_23 ?_
    have hres : lpr q = 1 := by rw [hf, lprN_step (k := (10001 - b).toNat) (k' := (10001 - (b + 1)).toNat) (by omega), if_neg (by omega)]
    exact z_iret hx hb hr hlocks rfl () (congrArg (fun z => some (Value.int (zI z))) hres) (trivial) z_nilP z_nilD hS dX1_leastPrimitiveRoot_24
  · refine lv_iload_n hx hb dX1_leastPrimitiveRoot_7 rfl (lv_at hl 1 rfl) ?_
    refine lv_iload_n hx hb dX1_leastPrimitiveRoot_8 rfl (lv_at hl 0 rfl) ?_
    have hRc : va_P D vwCl [] H := z_nilP
    refine z_ro (ws := []) (va_runS (As := [.int (zI b), .int (zI q)]) (rest := []) CF (c_X1_isPrimitiveRoot l D b q (by omega) (by omega) H.size) (va_cwS 2 hts gX1_leastPrimitiveRoot_X1_isPrimitiveRoot rfl rfl rfl (by decide +kernel) ⟨Nat.le_of_ble_eq_true rfl, Nat.le_of_ble_eq_true rfl⟩) (z_preS z_nilP (z_nilD (A := A)) hRc z_noX (hK.sub (tys' := []) [] rfl)) rfl rfl hl.1 rfl (lv_room (Nat.le_of_ble_eq_true rfl)) dX1_leastPrimitiveRoot_9 ⟨Nat.le_of_ble_eq_true rfl, Nat.le_of_ble_eq_true rfl⟩) z_nilP hS hA (cells' := 0) (slots' := 0) rfl rfl (fun H locs hP hS => ?_)
    refine z_ifB_eq (tgt := 17) hx hb dX1_leastPrimitiveRoot_12 (by decide) (fun c_12 => ?_) (fun c_12 => ?_)
    · refine lv_iinc (v := zI (b + 1)) (lv' := [(1, .int (zI (b + 1))), (0, .int (zI q))]) hx hb dX1_leastPrimitiveRoot_17 hl (k := 1) rfl (zI_add _ _) (by decide) rfl (fun ls hl => ?_)
      have hl := lv_sub hl [1, 0] rfl
      have hl : lv_has ls 2 [(0, .int (zI q)), (1, .int (zI (b + 1)))] := hl
      refine lv_goto (tgt := 2) hx hb dX1_leastPrimitiveRoot_20 (by decide) ?_
      exact ih_2 (b + 1) _ _ _ ⟨(by omega), (by rw [hf, lprN_step (k := (10001 - b).toNat) (k' := (10001 - (b + 1)).toNat) (by omega), if_pos c_4, if_neg c_12]), hS, hl⟩ (by show (10001 - (b + 1)).toNat < (10001 - b).toNat; omega)
    · refine lv_iload_n hx hb dX1_leastPrimitiveRoot_15 rfl (lv_at hl 1 rfl) ?_
      have hres : lpr q = b := by rw [hf, lprN_step (k := (10001 - b).toNat) (k' := (10001 - (b + 1)).toNat) (by omega), if_pos c_4, if_pos c_12]
      exact z_iret hx hb hr hlocks rfl () (congrArg (fun z => some (Value.int (zI z))) hres) (trivial) z_nilP z_nilD hS dX1_leastPrimitiveRoot_16

