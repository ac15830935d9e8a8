set_option maxHeartbeats 4000000 in
set_option maxRecDepth 100000 in
theorem c_X6_roundAt (l : Launch) (D : va_G) (cI : ClassId) (h0 : Nat) (ae : Nat) (al : Nat) (ap : Nat) (az : Nat) (ar : Nat) (am : Nat) (np : Int) (th : Int) (xe : Int → Int) (xl : Int → Int) (xp : Int → Int) (xz : Int → Int) (i : Int) (a : Int) (b : Int) (k : Int) (hnp_ : 0 ≤ np ∧ np ≤ 8) (hi0 : 0 ≤ i ∧ i < np) (hz_ : 1 ≤ xz i ∧ xz i ≤ 64) (hp_ : 2 ≤ xp i ∧ xp i ≤ 10000) (hr_a : 0 ≤ a ∧ a < 4) (hxl_a : 0 ≤ xl a ∧ xl a ≤ 64) (hr_b : 0 ≤ b ∧ b < 4) (hxl_b : 0 ≤ xl b ∧ xl b ≤ 64) (hxe : ∀ k, 0 ≤ k → k < 256 → -1000000 ≤ xe k ∧ xe k ≤ 1000000) (hk_ : 0 ≤ k ∧ k < xz i) : zF l yX6_roundAt wsX6_roundAt ({ frames := 2, cells := 0, slots := 0, locals := 45 } : Room) D [(cI, .int)] [(h0, .inr (5, [.ref ae, .ref al, .ref ap, .ref az, .ref ar, .int (zI np), .ref am, .int (zI th)])), (ae, .inl (cI, 256, .inl (zA xe))), (al, .inl (cI, 4, .inl (zA xl))), (ap, .inl (cI, 8, .inl (zA xp))), (az, .inl (cI, 8, .inl (zA xz)))] [.ref h0, .int (zI i), .int (zI a), .int (zI b), .int (zI k)] (some (.int (zI (cyc (xp i) (xz i) (fun j => rowAt (eRow xe a) (xl a) j % xp i) (fun j => rowAt (eRow xe b) (xl b) j % xp i) k)))) := by
  refine z_start (cc := cX6_roundAt) (maxL := 9) (ret := (some .int)) (own := RX6) (by decide) rfl rfl (Nat.le_of_ble_eq_true rfl) [(0, .ref h0), (1, .int (zI i)), (2, .int (zI a)), (3, .int (zI b)), (4, .int (zI k))] rfl ?_
  intro pp ee s mm below meth cc A H ls hx hb hr hml hts hown hlocks hin hK hA hP hD hS hR0 hR hl
  have CF : CallFix pp mm cc cX6_roundAt 9 s ([.ref h0, .int (zI i), .int (zI a), .int (zI b), .int (zI k)] : List Value).toArray wsX6_roundAt RX6 := ⟨hx, hb, hml, hown, hts⟩
  have hi6 : ∀ w ∈ wsX60, w ∈ wsX6_roundAt := by decide +kernel
  refine lv_aload_n hx hb dX6_roundAt_0 rfl (lv_at hl 0 rfl) ?_
  refine va_get (D := D) (ci := 5) (C := RX6) (T := TX6) (N := 8) hx hb hts hi6 hown hK hR 0 rfl rfl 2 (by decide) (hts (.fieldLink RX6 16 "ButterflyYardModel" "primes" "[I") (by decide +kernel)) (fun _ h9 => h9) rfl dX6_roundAt_1 ?_
  refine lv_iload_n hx hb dX6_roundAt_4 rfl (lv_at hl 1 rfl) ?_
  refine z_iald (cA := cI) (n := 8) (g := xp) hx hb hK hR 3 0 rfl rfl rfl (by omega) dX6_roundAt_5 ?_
  refine lv_istore (lv' := [(5, .int (zI (xp i))), (0, .ref h0), (1, .int (zI i)), (2, .int (zI a)), (3, .int (zI b)), (4, .int (zI k))]) hx hb dX6_roundAt_6 hl (by decide) rfl (fun ls hl => ?_)
  have hl := lv_sub hl [1, 2, 3, 4, 5, 0] rfl
  have hl : lv_has ls 9 [(0, .ref h0), (1, .int (zI i)), (2, .int (zI a)), (3, .int (zI b)), (4, .int (zI k)), (5, .int (zI (xp i)))] := hl
  refine lv_aload_n hx hb dX6_roundAt_8 rfl (lv_at hl 0 rfl) ?_
  refine va_get (D := D) (ci := 5) (C := RX6) (T := TX6) (N := 8) hx hb hts hi6 hown hK hR 0 rfl rfl 3 (by decide) (hts (.fieldLink RX6 19 "ButterflyYardModel" "sizes" "[I") (by decide +kernel)) (fun _ h9 => h9) rfl dX6_roundAt_9 ?_
  refine lv_iload_n hx hb dX6_roundAt_12 rfl (lv_at hl 1 rfl) ?_
  refine z_iald (cA := cI) (n := 8) (g := xz) hx hb hK hR 4 0 rfl rfl rfl (by omega) dX6_roundAt_13 ?_
  refine lv_istore (lv' := [(6, .int (zI (xz i))), (0, .ref h0), (1, .int (zI i)), (2, .int (zI a)), (3, .int (zI b)), (4, .int (zI k)), (5, .int (zI (xp i)))]) hx hb dX6_roundAt_14 hl (by decide) rfl (fun ls hl => ?_)
  have hl := lv_sub hl [1, 2, 3, 4, 5, 6, 0] rfl
  have hl : lv_has ls 9 [(0, .ref h0), (1, .int (zI i)), (2, .int (zI a)), (3, .int (zI b)), (4, .int (zI k)), (5, .int (zI (xp i))), (6, .int (zI (xz i)))] := hl
  refine z_iconst hx hb dX6_roundAt_16 ?_
  refine lv_istore (lv' := [(7, .int (zI 0)), (0, .ref h0), (1, .int (zI i)), (2, .int (zI a)), (3, .int (zI b)), (4, .int (zI k)), (5, .int (zI (xp i))), (6, .int (zI (xz i)))]) hx hb dX6_roundAt_17 hl (by decide) rfl (fun ls hl => ?_)
  have hl := lv_sub hl [1, 2, 3, 4, 5, 6, 7, 0] rfl
  have hl : lv_has ls 9 [(0, .ref h0), (1, .int (zI i)), (2, .int (zI a)), (3, .int (zI b)), (4, .int (zI k)), (5, .int (zI (xp i))), (6, .int (zI (xz i))), (7, .int (zI 0))] := hl
  refine z_iconst hx hb dX6_roundAt_19 ?_
  refine lv_istore (lv' := [(8, .int (zI 0)), (0, .ref h0), (1, .int (zI i)), (2, .int (zI a)), (3, .int (zI b)), (4, .int (zI k)), (5, .int (zI (xp i))), (6, .int (zI (xz i))), (7, .int (zI 0))]) hx hb dX6_roundAt_20 hl (by decide) rfl (fun ls hl => ?_)
  have hl := lv_sub hl [1, 2, 3, 4, 5, 6, 7, 8, 0] rfl
  have hl : lv_has ls 9 [(0, .ref h0), (1, .int (zI i)), (2, .int (zI a)), (3, .int (zI b)), (4, .int (zI k)), (5, .int (zI (xp i))), (6, .int (zI (xz i))), (7, .int (zI 0)), (8, .int (zI 0))] := hl
  refine z_loop (σ := Int × Int) (fun (t, j) => (xz i - j).toNat) (fun (t, j) H locs ls => (0 ≤ j ∧ j ≤ xz i) ∧ t = zT (fun j => (fun j => rowAt (eRow xe a) (xl a) j % xp i) j * (fun j => rowAt (eRow xe b) (xl b) j % xp i) ((k - j + xz i) % xz i)) j % xp i ∧ (0 ≤ t ∧ t < xp i) ∧ va_S A s.heap H locs ∧ lv_has ls 9 [(0, .ref h0), (1, .int (zI i)), (2, .int (zI a)), (3, .int (zI b)), (4, .int (zI k)), (5, .int (zI (xp i))), (6, .int (zI (xz i))), (7, .int (zI t)), (8, .int (zI j))]) (0, 0) ⟨(by omega), (by rw [zT_0, Int.zero_emod]), (by omega), hS, hl⟩ ?_
  intro ⟨t, j⟩ H locs ls hI ih_22
  obtain ⟨hj_, ht_, htr, hS, hl⟩ := hI
  have hR := hR0.at hS
  refine lv_iload hx hb dX6_roundAt_22 (lv_at hl 8 rfl) ?_
  refine lv_iload hx hb dX6_roundAt_24 (lv_at hl 6 rfl) ?_
  refine z_icmp_ge (tgt := 71) hx hb dX6_roundAt_26 (by decide) (by omega) (fun c_26 => ?_) (fun c_26 => ?_)
  · refine lv_iload hx hb dX6_roundAt_71 (lv_at hl 7 rfl) ?_
    have hres : cyc (xp i) (xz i) (fun j => rowAt (eRow xe a) (xl a) j % xp i) (fun j => rowAt (eRow xe b) (xl b) j % xp i) k = t := by unfold cyc; rw [ht_, show j = xz i by omega]
    exact z_iret hx hb hr hlocks rfl () (congrArg (fun z => some (Value.int (zI z))) hres) (trivial) z_nilP z_nilD hS dX6_roundAt_73
  · refine lv_iload hx hb dX6_roundAt_29 (lv_at hl 7 rfl) ?_
    refine lv_aload_n hx hb dX6_roundAt_31 rfl (lv_at hl 0 rfl) ?_
    refine lv_iload_n hx hb dX6_roundAt_32 rfl (lv_at hl 2 rfl) ?_
    refine lv_iload hx hb dX6_roundAt_33 (lv_at hl 8 rfl) ?_
    refine lv_iload hx hb dX6_roundAt_35 (lv_at hl 5 rfl) ?_
    have hRc := z_subR (ws := []) (rs := [(h0, .inr (5, [.ref ae, .ref al, .ref ap, .ref az, .ref ar, .int (zI np), .ref am, .int (zI th)])), (ae, .inl (cI, 256, .inl (zA xe))), (al, .inl (cI, 4, .inl (zA xl))), (ap, .inl (cI, 8, .inl (zA xp))), (az, .inl (cI, 8, .inl (zA xz)))]) (rc := [(h0, .inr (5, [.ref ae, .ref al, .ref ap, .ref az, .ref ar, .int (zI np), .ref am, .int (zI th)])), (ae, .inl (cI, 256, .inl (zA xe))), (al, .inl (cI, 4, .inl (zA xl)))]) z_nilP hR (isR := [0, 1, 2]) rfl
    refine z_ro (ws := []) (va_runV (As := [.int (zI a), .int (zI j), .int (zI (xp i))]) (rest := [.int (zI t)]) CF (c_X6_restAt l D cI h0 ae al ap az ar am np th xe xl a j (xp i) (by omega) (by omega) (by omega) (by omega) (by omega) H.size) (cwV 3 hts gX6_roundAt_X6_restAt rfl rfl rfl (by decide +kernel) ⟨Nat.le_of_ble_eq_true rfl, Nat.le_of_ble_eq_true rfl⟩) (z_preV (va_recv hK hR (ci := 5) (q0 := 0) rfl rfl) z_nilP (z_nilD (A := A)) hRc z_noX (hK.sub (tys' := [(cI, .int)]) [0] rfl)) rfl rfl hl.1 rfl (lv_room (Nat.le_of_ble_eq_true rfl)) dX6_roundAt_37 ⟨Nat.le_of_ble_eq_true rfl, Nat.le_of_ble_eq_true rfl⟩) z_nilP hS hA (cells' := 0) (slots' := 0) rfl rfl (fun H locs hP hS => ?_)
    have hR := hR0.at hS
    refine lv_aload_n hx hb dX6_roundAt_40 rfl (lv_at hl 0 rfl) ?_
    refine lv_iload_n hx hb dX6_roundAt_41 rfl (lv_at hl 3 rfl) ?_
    refine lv_iload hx hb dX6_roundAt_42 (lv_at hl 4 rfl) ?_
    refine lv_iload hx hb dX6_roundAt_44 (lv_at hl 8 rfl) ?_
    refine z_isub hx hb dX6_roundAt_46 ?_
    refine lv_iload hx hb dX6_roundAt_47 (lv_at hl 6 rfl) ?_
    refine z_iadd hx hb dX6_roundAt_49 ?_
    refine lv_iload hx hb dX6_roundAt_50 (lv_at hl 6 rfl) ?_
    refine z_irem hx hb dX6_roundAt_52 (by omega) (by omega) ?_
    have hm_52 := z_rem (a := (k - j) + (xz i)) (n := xz i) (by omega)
    refine lv_iload hx hb dX6_roundAt_53 (lv_at hl 5 rfl) ?_
    have hRc := z_subR (ws := []) (rs := [(h0, .inr (5, [.ref ae, .ref al, .ref ap, .ref az, .ref ar, .int (zI np), .ref am, .int (zI th)])), (ae, .inl (cI, 256, .inl (zA xe))), (al, .inl (cI, 4, .inl (zA xl))), (ap, .inl (cI, 8, .inl (zA xp))), (az, .inl (cI, 8, .inl (zA xz)))]) (rc := [(h0, .inr (5, [.ref ae, .ref al, .ref ap, .ref az, .ref ar, .int (zI np), .ref am, .int (zI th)])), (ae, .inl (cI, 256, .inl (zA xe))), (al, .inl (cI, 4, .inl (zA xl)))]) z_nilP hR (isR := [0, 1, 2]) rfl
    refine z_ro (ws := []) (va_runV (As := [.int (zI b), .int (zI (((k - j) + (xz i)) % (xz i))), .int (zI (xp i))]) (rest := [.int (zI (rowAt (eRow xe a) (xl a) j % (xp i))), .int (zI t)]) CF (c_X6_restAt l D cI h0 ae al ap az ar am np th xe xl b (((k - j) + (xz i)) % (xz i)) (xp i) (by omega) (by omega) (by omega) (by omega) (by omega) H.size) (cwV 3 hts gX6_roundAt_X6_restAt rfl rfl rfl (by decide +kernel) ⟨Nat.le_of_ble_eq_true rfl, Nat.le_of_ble_eq_true rfl⟩) (z_preV (va_recv hK hR (ci := 5) (q0 := 0) rfl rfl) z_nilP (z_nilD (A := A)) hRc z_noX (hK.sub (tys' := [(cI, .int)]) [0] rfl)) rfl rfl hl.1 rfl (lv_room (Nat.le_of_ble_eq_true rfl)) dX6_roundAt_55 ⟨Nat.le_of_ble_eq_true rfl, Nat.le_of_ble_eq_true rfl⟩) z_nilP hS hA (cells' := 0) (slots' := 0) rfl rfl (fun H locs hP hS => ?_)
    have hR := hR0.at hS
    have hr1 := z_rem (a := rowAt (eRow xe a) (xl a) j) (n := xp i) (by omega)
    have hr2 := z_rem (a := rowAt (eRow xe b) (xl b) ((k - j + xz i) % xz i)) (n := xp i) (by omega)
    have hb1 := z_mulb (a := rowAt (eRow xe a) (xl a) j % xp i) (b := rowAt (eRow xe b) (xl b) ((k - j + xz i) % xz i) % xp i) (A := 10000) (B := 10000) (by omega) (by omega) (by omega) (by omega)
    refine z_imul hx hb dX6_roundAt_58 ?_
    refine z_iadd hx hb dX6_roundAt_59 ?_
    refine lv_iload hx hb dX6_roundAt_60 (lv_at hl 5 rfl) ?_
    refine z_irem hx hb dX6_roundAt_62 (by omega) (by omega) ?_
    have hm_62 := z_rem (a := t + ((rowAt (eRow xe a) (xl a) j % (xp i)) * (rowAt (eRow xe b) (xl b) (((k - j) + (xz i)) % (xz i)) % (xp i)))) (n := xp i) (by omega)
    refine lv_istore (lv' := [(7, .int (zI ((t + ((rowAt (eRow xe a) (xl a) j % (xp i)) * (rowAt (eRow xe b) (xl b) (((k - j) + (xz i)) % (xz i)) % (xp i)))) % (xp i)))), (0, .ref h0), (1, .int (zI i)), (2, .int (zI a)), (3, .int (zI b)), (4, .int (zI k)), (5, .int (zI (xp i))), (6, .int (zI (xz i))), (8, .int (zI j))]) hx hb dX6_roundAt_63 hl (by decide) rfl (fun ls hl => ?_)
    have hl := lv_sub hl [1, 2, 3, 4, 5, 6, 7, 0, 8] rfl
    have hl : lv_has ls 9 [(0, .ref h0), (1, .int (zI i)), (2, .int (zI a)), (3, .int (zI b)), (4, .int (zI k)), (5, .int (zI (xp i))), (6, .int (zI (xz i))), (7, .int (zI ((t + ((rowAt (eRow xe a) (xl a) j % (xp i)) * (rowAt (eRow xe b) (xl b) (((k - j) + (xz i)) % (xz i)) % (xp i)))) % (xp i)))), (8, .int (zI j))] := hl
    refine lv_iinc (v := zI (j + 1)) (lv' := [(8, .int (zI (j + 1))), (0, .ref h0), (1, .int (zI i)), (2, .int (zI a)), (3, .int (zI b)), (4, .int (zI k)), (5, .int (zI (xp i))), (6, .int (zI (xz i))), (7, .int (zI ((t + ((rowAt (eRow xe a) (xl a) j % (xp i)) * (rowAt (eRow xe b) (xl b) (((k - j) + (xz i)) % (xz i)) % (xp i)))) % (xp i))))]) hx hb dX6_roundAt_65 hl (k := 8) rfl (zI_add _ _) (by decide) rfl (fun ls hl => ?_)
    have hl := lv_sub hl [1, 2, 3, 4, 5, 6, 7, 8, 0] rfl
    have hl : lv_has ls 9 [(0, .ref h0), (1, .int (zI i)), (2, .int (zI a)), (3, .int (zI b)), (4, .int (zI k)), (5, .int (zI (xp i))), (6, .int (zI (xz i))), (7, .int (zI ((t + ((rowAt (eRow xe a) (xl a) j % (xp i)) * (rowAt (eRow xe b) (xl b) (((k - j) + (xz i)) % (xz i)) % (xp i)))) % (xp i)))), (8, .int (zI (j + 1)))] := hl
    refine lv_goto (tgt := 22) hx hb dX6_roundAt_68 (by decide) ?_
    exact ih_22 ((t + ((rowAt (eRow xe a) (xl a) j % (xp i)) * (rowAt (eRow xe b) (xl b) (((k - j) + (xz i)) % (xz i)) % (xp i)))) % (xp i), j + 1) _ _ _ ⟨(by omega), (by rw [ht_, Int.emod_add_emod, zT_s _ hj_.1]), (by exact z_rem (by omega)), hS, hl⟩ (by show (xz i - (j + 1)).toNat < (xz i - j).toNat; omega)

set_option maxHeartbeats 4000000 in
set_option maxRecDepth 100000 in
theorem c_X6_areRight_1a (l : Launch) (D : va_G) (cI : ClassId) (h0 : Nat) (ae : Nat) (al : Nat) (ap : Nat) (az : Nat) (ar : Nat) (am : Nat) (np : Int) (th : Int) (i : Int) (a : Int) (b : Int) (mo : Int) (ha_i : -2147483648 ≤ i ∧ i ≤ 2147483647) (ha_a : -2147483648 ≤ a ∧ a ≤ 2147483647) (ha_b : -2147483648 ≤ b ∧ b ≤ 2147483647) (ha_mo : -2147483648 ≤ mo ∧ mo ≤ 2147483647) (hnp_ : 0 ≤ np ∧ np ≤ 8) (hi0 : ¬ (0 ≤ i ∧ i < np)) : zC l yX6_areRight wsX6_areRight ({ frames := 1, cells := 0, slots := 0, locals := 21 } : Room) D [(cI, .int)] [(h0, .inr (5, [.ref ae, .ref al, .ref ap, .ref az, .ref ar, .int (zI np), .ref am, .int (zI th)]))] [] [.ref h0, .int (zI i), .int (zI a), .int (zI b), .int (zI mo)] (S := Unit) (fun u => True) (fun u => some (.int (zI 0))) (fun u => [(h0, .inr (5, [.ref ae, .ref al, .ref ap, .ref az, .ref ar, .int (zI np), .ref am, .int (zI 1)]))]) := by
  refine z_start (cc := cX6_areRight) (maxL := 6) (ret := (some .boolean)) (own := RX6) (by decide) rfl rfl (Nat.le_of_ble_eq_true rfl) [(0, .ref h0), (1, .int (zI i)), (2, .int (zI a)), (3, .int (zI b)), (4, .int (zI mo))] rfl ?_
  intro pp ee s mm below meth cc A H ls hx hb hr hml hts hown hlocks hin hK hA hP hD hS hR0 hR hl
  have CF : CallFix pp mm cc cX6_areRight 6 s ([.ref h0, .int (zI i), .int (zI a), .int (zI b), .int (zI mo)] : List Value).toArray wsX6_areRight RX6 := ⟨hx, hb, hml, hown, hts⟩
  have hi6 : ∀ w ∈ wsX60, w ∈ wsX6_areRight := by decide +kernel
  refine lv_aload_n hx hb dX6_areRight_0 rfl (lv_at hl 0 rfl) ?_
  refine lv_iload_n hx hb dX6_areRight_1 rfl (lv_at hl 1 rfl) ?_
  have hRc := z_subR (ws := [(h0, .inr (5, [.ref ae, .ref al, .ref ap, .ref az, .ref ar, .int (zI np), .ref am, .int (zI th)]))]) (rs := []) (rc := [(h0, .inr (5, [.ref ae, .ref al, .ref ap, .ref az, .ref ar, .int (zI np), .ref am, .int (zI th)]))]) hP z_nilP (isR := [0]) rfl
  refine z_ro (ws := [(h0, .inr (5, [.ref ae, .ref al, .ref ap, .ref az, .ref ar, .int (zI np), .ref am, .int (zI th)]))]) (va_runV (As := [.int (zI i)]) (rest := []) CF (c_X6_isPlan l D h0 ae al ap az ar am np th i (by omega) (by omega) H.size) (cwV 1 hts gX6_areRight_X6_isPlan rfl rfl rfl (by decide +kernel) ⟨Nat.le_of_ble_eq_true rfl, Nat.le_of_ble_eq_true rfl⟩) (z_preV (va_recv hK hP (ci := 5) (q0 := 0) rfl rfl) z_nilP (z_nilD (A := A)) hRc z_noX (hK.sub (tys' := []) [] rfl)) rfl rfl hl.1 rfl (lv_room (Nat.le_of_ble_eq_true rfl)) dX6_areRight_2 ⟨Nat.le_of_ble_eq_true rfl, Nat.le_of_ble_eq_true rfl⟩) hP hS hA (cells' := 0) (slots' := 0) rfl rfl (fun H locs hP hS => ?_)
  refine z_ifB_eq (tgt := 31) hx hb dX6_areRight_5 (by decide) (fun c_5 => ?_) (fun c_5 => absurd c_5 (by omega))
  refine z_iconst hx hb dX6_areRight_31 ?_
  refine lv_istore (lv' := [(5, .int (zI 0)), (0, .ref h0), (1, .int (zI i)), (2, .int (zI a)), (3, .int (zI b)), (4, .int (zI mo))]) hx hb dX6_areRight_32 hl (by decide) rfl (fun ls hl => ?_)
  have hl := lv_sub hl [1, 2, 3, 4, 5, 0] rfl
  have hl : lv_has ls 6 [(0, .ref h0), (1, .int (zI i)), (2, .int (zI a)), (3, .int (zI b)), (4, .int (zI mo)), (5, .int (zI 0))] := hl
  refine lv_aload_n hx hb dX6_areRight_34 rfl (lv_at hl 0 rfl) ?_
  refine lv_iload hx hb dX6_areRight_35 (lv_at hl 5 rfl) ?_
  refine z_if_ne (tgt := 44) hx hb dX6_areRight_37 (by decide) (by omega) (fun c_37 => absurd c_37 (by omega)) (fun c_37 => ?_)
  refine z_iconst hx hb dX6_areRight_40 ?_
  refine lv_goto (tgt := 79) hx hb dX6_areRight_41 (by decide) ?_
  refine va_put (D := D) (ci := 5) (v := .int (zI 1)) (ty := .int) (C := RX6) (T := TX6) (N := 8) hx hb hts hi6 tyX6 tyX6_ok nmX6 hown hK hP hD hS 0 rfl rfl 7 (by decide) (hts (.fieldLink RX6 28 "ButterflyYardModel" "thrown" "I") (by decide +kernel)) (fun _ h9 => h9) rfl (by decide +kernel) rfl rfl (Nat.le_of_ble_eq_true rfl) dX6_areRight_79 (fun H locs hP hD hS => ?_)
  have hP : va_P D vwCl [(h0, .inr (5, [.ref ae, .ref al, .ref ap, .ref az, .ref ar, .int (zI np), .ref am, .int (zI 1)]))] H := hP
  have hD : va_D A [(h0, .inr (5, [.ref ae, .ref al, .ref ap, .ref az, .ref ar, .int (zI np), .ref am, .int (zI 1)]))] := hD
  refine lv_aload_n hx hb dX6_areRight_82 rfl (lv_at hl 0 rfl) ?_
  refine va_get (D := D) (ci := 5) (C := RX6) (T := TX6) (N := 8) hx hb hts hi6 hown hK hP 0 rfl rfl 7 (by decide) (hts (.fieldLink RX6 28 "ButterflyYardModel" "thrown" "I") (by decide +kernel)) (fun _ h9 => h9) rfl dX6_areRight_83 ?_
  refine z_if_ne (tgt := 93) hx hb dX6_areRight_86 (by decide) (by omega) (fun c_86 => ?_) (fun c_86 => absurd c_86 (by omega))
  refine z_iconst hx hb dX6_areRight_93 ?_
  exact z_iret hx hb hr hlocks (rfl) () (rfl) (trivial) hP hD hS dX6_areRight_94

set_option maxHeartbeats 4000000 in
set_option maxRecDepth 100000 in
theorem c_X6_areRight_1b (l : Launch) (D : va_G) (cI : ClassId) (h0 : Nat) (ae : Nat) (al : Nat) (ap : Nat) (az : Nat) (ar : Nat) (am : Nat) (np : Int) (th : Int) (i : Int) (a : Int) (b : Int) (mo : Int) (ha_i : -2147483648 ≤ i ∧ i ≤ 2147483647) (ha_a : -2147483648 ≤ a ∧ a ≤ 2147483647) (ha_b : -2147483648 ≤ b ∧ b ≤ 2147483647) (ha_mo : -2147483648 ≤ mo ∧ mo ≤ 2147483647) (hnp_ : 0 ≤ np ∧ np ≤ 8) (hi0 : 0 ≤ i ∧ i < np) (hb_a : ¬ (0 ≤ a ∧ a < 4)) : zC l yX6_areRight wsX6_areRight ({ frames := 1, cells := 0, slots := 0, locals := 21 } : Room) D [(cI, .int)] [(h0, .inr (5, [.ref ae, .ref al, .ref ap, .ref az, .ref ar, .int (zI np), .ref am, .int (zI th)]))] [] [.ref h0, .int (zI i), .int (zI a), .int (zI b), .int (zI mo)] (S := Unit) (fun u => True) (fun u => some (.int (zI 0))) (fun u => [(h0, .inr (5, [.ref ae, .ref al, .ref ap, .ref az, .ref ar, .int (zI np), .ref am, .int (zI 1)]))]) := by
  refine z_start (cc := cX6_areRight) (maxL := 6) (ret := (some .boolean)) (own := RX6) (by decide) rfl rfl (Nat.le_of_ble_eq_true rfl) [(0, .ref h0), (1, .int (zI i)), (2, .int (zI a)), (3, .int (zI b)), (4, .int (zI mo))] rfl ?_
  intro pp ee s mm below meth cc A H ls hx hb hr hml hts hown hlocks hin hK hA hP hD hS hR0 hR hl
  have CF : CallFix pp mm cc cX6_areRight 6 s ([.ref h0, .int (zI i), .int (zI a), .int (zI b), .int (zI mo)] : List Value).toArray wsX6_areRight RX6 := ⟨hx, hb, hml, hown, hts⟩
  have hi6 : ∀ w ∈ wsX60, w ∈ wsX6_areRight := by decide +kernel
  refine lv_aload_n hx hb dX6_areRight_0 rfl (lv_at hl 0 rfl) ?_
  refine lv_iload_n hx hb dX6_areRight_1 rfl (lv_at hl 1 rfl) ?_
  have hRc := z_subR (ws := [(h0, .inr (5, [.ref ae, .ref al, .ref ap, .ref az, .ref ar, .int (zI np), .ref am, .int (zI th)]))]) (rs := []) (rc := [(h0, .inr (5, [.ref ae, .ref al, .ref ap, .ref az, .ref ar, .int (zI np), .ref am, .int (zI th)]))]) hP z_nilP (isR := [0]) rfl
  refine z_ro (ws := [(h0, .inr (5, [.ref ae, .ref al, .ref ap, .ref az, .ref ar, .int (zI np), .ref am, .int (zI th)]))]) (va_runV (As := [.int (zI i)]) (rest := []) CF (c_X6_isPlan l D h0 ae al ap az ar am np th i (by omega) (by omega) H.size) (cwV 1 hts gX6_areRight_X6_isPlan rfl rfl rfl (by decide +kernel) ⟨Nat.le_of_ble_eq_true rfl, Nat.le_of_ble_eq_true rfl⟩) (z_preV (va_recv hK hP (ci := 5) (q0 := 0) rfl rfl) z_nilP (z_nilD (A := A)) hRc z_noX (hK.sub (tys' := []) [] rfl)) rfl rfl hl.1 rfl (lv_room (Nat.le_of_ble_eq_true rfl)) dX6_areRight_2 ⟨Nat.le_of_ble_eq_true rfl, Nat.le_of_ble_eq_true rfl⟩) hP hS hA (cells' := 0) (slots' := 0) rfl rfl (fun H locs hP hS => ?_)
  refine z_ifB_eq (tgt := 31) hx hb dX6_areRight_5 (by decide) (fun c_5 => absurd c_5 (by omega)) (fun c_5 => ?_)
  refine lv_iload_n hx hb dX6_areRight_8 rfl (lv_at hl 2 rfl) ?_
  have hRc : va_P D vwCl [] H := z_nilP
  refine z_ro (ws := [(h0, .inr (5, [.ref ae, .ref al, .ref ap, .ref az, .ref ar, .int (zI np), .ref am, .int (zI th)]))]) (va_runS (As := [.int (zI a)]) (rest := []) CF (c_X6_isRow l D a (by omega) H.size) (va_cwS 1 hts gX6_areRight_X6_isRow rfl rfl rfl (by decide +kernel) ⟨Nat.le_of_ble_eq_true rfl, Nat.le_of_ble_eq_true rfl⟩) (z_preS z_nilP (z_nilD (A := A)) hRc z_noX (hK.sub (tys' := []) [] rfl)) rfl rfl hl.1 rfl (lv_room (Nat.le_of_ble_eq_true rfl)) dX6_areRight_9 ⟨Nat.le_of_ble_eq_true rfl, Nat.le_of_ble_eq_true rfl⟩) hP hS hA (cells' := 0) (slots' := 0) rfl rfl (fun H locs hP hS => ?_)
  refine z_ifB_eq (tgt := 31) hx hb dX6_areRight_12 (by decide) (fun c_12 => ?_) (fun c_12 => absurd c_12 (by omega))
  refine z_iconst hx hb dX6_areRight_31 ?_
  refine lv_istore (lv' := [(5, .int (zI 0)), (0, .ref h0), (1, .int (zI i)), (2, .int (zI a)), (3, .int (zI b)), (4, .int (zI mo))]) hx hb dX6_areRight_32 hl (by decide) rfl (fun ls hl => ?_)
  have hl := lv_sub hl [1, 2, 3, 4, 5, 0] rfl
  have hl : lv_has ls 6 [(0, .ref h0), (1, .int (zI i)), (2, .int (zI a)), (3, .int (zI b)), (4, .int (zI mo)), (5, .int (zI 0))] := hl
  refine lv_aload_n hx hb dX6_areRight_34 rfl (lv_at hl 0 rfl) ?_
  refine lv_iload hx hb dX6_areRight_35 (lv_at hl 5 rfl) ?_
  refine z_if_ne (tgt := 44) hx hb dX6_areRight_37 (by decide) (by omega) (fun c_37 => absurd c_37 (by omega)) (fun c_37 => ?_)
  refine z_iconst hx hb dX6_areRight_40 ?_
  refine lv_goto (tgt := 79) hx hb dX6_areRight_41 (by decide) ?_
  refine va_put (D := D) (ci := 5) (v := .int (zI 1)) (ty := .int) (C := RX6) (T := TX6) (N := 8) hx hb hts hi6 tyX6 tyX6_ok nmX6 hown hK hP hD hS 0 rfl rfl 7 (by decide) (hts (.fieldLink RX6 28 "ButterflyYardModel" "thrown" "I") (by decide +kernel)) (fun _ h9 => h9) rfl (by decide +kernel) rfl rfl (Nat.le_of_ble_eq_true rfl) dX6_areRight_79 (fun H locs hP hD hS => ?_)
  have hP : va_P D vwCl [(h0, .inr (5, [.ref ae, .ref al, .ref ap, .ref az, .ref ar, .int (zI np), .ref am, .int (zI 1)]))] H := hP
  have hD : va_D A [(h0, .inr (5, [.ref ae, .ref al, .ref ap, .ref az, .ref ar, .int (zI np), .ref am, .int (zI 1)]))] := hD
  refine lv_aload_n hx hb dX6_areRight_82 rfl (lv_at hl 0 rfl) ?_
  refine va_get (D := D) (ci := 5) (C := RX6) (T := TX6) (N := 8) hx hb hts hi6 hown hK hP 0 rfl rfl 7 (by decide) (hts (.fieldLink RX6 28 "ButterflyYardModel" "thrown" "I") (by decide +kernel)) (fun _ h9 => h9) rfl dX6_areRight_83 ?_
  refine z_if_ne (tgt := 93) hx hb dX6_areRight_86 (by decide) (by omega) (fun c_86 => ?_) (fun c_86 => absurd c_86 (by omega))
  refine z_iconst hx hb dX6_areRight_93 ?_
  exact z_iret hx hb hr hlocks (rfl) () (rfl) (trivial) hP hD hS dX6_areRight_94

set_option maxHeartbeats 4000000 in
set_option maxRecDepth 100000 in
theorem c_X6_areRight_1c (l : Launch) (D : va_G) (cI : ClassId) (h0 : Nat) (ae : Nat) (al : Nat) (ap : Nat) (az : Nat) (ar : Nat) (am : Nat) (np : Int) (th : Int) (i : Int) (a : Int) (b : Int) (mo : Int) (ha_i : -2147483648 ≤ i ∧ i ≤ 2147483647) (ha_a : -2147483648 ≤ a ∧ a ≤ 2147483647) (ha_b : -2147483648 ≤ b ∧ b ≤ 2147483647) (ha_mo : -2147483648 ≤ mo ∧ mo ≤ 2147483647) (hnp_ : 0 ≤ np ∧ np ≤ 8) (hi0 : 0 ≤ i ∧ i < np) (hr_a : 0 ≤ a ∧ a < 4) (hb_b : ¬ (0 ≤ b ∧ b < 4)) : zC l yX6_areRight wsX6_areRight ({ frames := 1, cells := 0, slots := 0, locals := 21 } : Room) D [(cI, .int)] [(h0, .inr (5, [.ref ae, .ref al, .ref ap, .ref az, .ref ar, .int (zI np), .ref am, .int (zI th)]))] [] [.ref h0, .int (zI i), .int (zI a), .int (zI b), .int (zI mo)] (S := Unit) (fun u => True) (fun u => some (.int (zI 0))) (fun u => [(h0, .inr (5, [.ref ae, .ref al, .ref ap, .ref az, .ref ar, .int (zI np), .ref am, .int (zI 1)]))]) := by
  refine z_start (cc := cX6_areRight) (maxL := 6) (ret := (some .boolean)) (own := RX6) (by decide) rfl rfl (Nat.le_of_ble_eq_true rfl) [(0, .ref h0), (1, .int (zI i)), (2, .int (zI a)), (3, .int (zI b)), (4, .int (zI mo))] rfl ?_
  intro pp ee s mm below meth cc A H ls hx hb hr hml hts hown hlocks hin hK hA hP hD hS hR0 hR hl
  have CF : CallFix pp mm cc cX6_areRight 6 s ([.ref h0, .int (zI i), .int (zI a), .int (zI b), .int (zI mo)] : List Value).toArray wsX6_areRight RX6 := ⟨hx, hb, hml, hown, hts⟩
  have hi6 : ∀ w ∈ wsX60, w ∈ wsX6_areRight := by decide +kernel
  refine lv_aload_n hx hb dX6_areRight_0 rfl (lv_at hl 0 rfl) ?_
  refine lv_iload_n hx hb dX6_areRight_1 rfl (lv_at hl 1 rfl) ?_
  have hRc := z_subR (ws := [(h0, .inr (5, [.ref ae, .ref al, .ref ap, .ref az, .ref ar, .int (zI np), .ref am, .int (zI th)]))]) (rs := []) (rc := [(h0, .inr (5, [.ref ae, .ref al, .ref ap, .ref az, .ref ar, .int (zI np), .ref am, .int (zI th)]))]) hP z_nilP (isR := [0]) rfl
  refine z_ro (ws := [(h0, .inr (5, [.ref ae, .ref al, .ref ap, .ref az, .ref ar, .int (zI np), .ref am, .int (zI th)]))]) (va_runV (As := [.int (zI i)]) (rest := []) CF (c_X6_isPlan l D h0 ae al ap az ar am np th i (by omega) (by omega) H.size) (cwV 1 hts gX6_areRight_X6_isPlan rfl rfl rfl (by decide +kernel) ⟨Nat.le_of_ble_eq_true rfl, Nat.le_of_ble_eq_true rfl⟩) (z_preV (va_recv hK hP (ci := 5) (q0 := 0) rfl rfl) z_nilP (z_nilD (A := A)) hRc z_noX (hK.sub (tys' := []) [] rfl)) rfl rfl hl.1 rfl (lv_room (Nat.le_of_ble_eq_true rfl)) dX6_areRight_2 ⟨Nat.le_of_ble_eq_true rfl, Nat.le_of_ble_eq_true rfl⟩) hP hS hA (cells' := 0) (slots' := 0) rfl rfl (fun H locs hP hS => ?_)
  refine z_ifB_eq (tgt := 31) hx hb dX6_areRight_5 (by decide) (fun c_5 => absurd c_5 (by omega)) (fun c_5 => ?_)
  refine lv_iload_n hx hb dX6_areRight_8 rfl (lv_at hl 2 rfl) ?_
  have hRc : va_P D vwCl [] H := z_nilP
  refine z_ro (ws := [(h0, .inr (5, [.ref ae, .ref al, .ref ap, .ref az, .ref ar, .int (zI np), .ref am, .int (zI th)]))]) (va_runS (As := [.int (zI a)]) (rest := []) CF (c_X6_isRow l D a (by omega) H.size) (va_cwS 1 hts gX6_areRight_X6_isRow rfl rfl rfl (by decide +kernel) ⟨Nat.le_of_ble_eq_true rfl, Nat.le_of_ble_eq_true rfl⟩) (z_preS z_nilP (z_nilD (A := A)) hRc z_noX (hK.sub (tys' := []) [] rfl)) rfl rfl hl.1 rfl (lv_room (Nat.le_of_ble_eq_true rfl)) dX6_areRight_9 ⟨Nat.le_of_ble_eq_true rfl, Nat.le_of_ble_eq_true rfl⟩) hP hS hA (cells' := 0) (slots' := 0) rfl rfl (fun H locs hP hS => ?_)
  refine z_ifB_eq (tgt := 31) hx hb dX6_areRight_12 (by decide) (fun c_12 => absurd c_12 (by omega)) (fun c_12 => ?_)
  refine lv_iload_n hx hb dX6_areRight_15 rfl (lv_at hl 3 rfl) ?_
  have hRc : va_P D vwCl [] H := z_nilP
  refine z_ro (ws := [(h0, .inr (5, [.ref ae, .ref al, .ref ap, .ref az, .ref ar, .int (zI np), .ref am, .int (zI th)]))]) (va_runS (As := [.int (zI b)]) (rest := []) CF (c_X6_isRow l D b (by omega) H.size) (va_cwS 1 hts gX6_areRight_X6_isRow rfl rfl rfl (by decide +kernel) ⟨Nat.le_of_ble_eq_true rfl, Nat.le_of_ble_eq_true rfl⟩) (z_preS z_nilP (z_nilD (A := A)) hRc z_noX (hK.sub (tys' := []) [] rfl)) rfl rfl hl.1 rfl (lv_room (Nat.le_of_ble_eq_true rfl)) dX6_areRight_16 ⟨Nat.le_of_ble_eq_true rfl, Nat.le_of_ble_eq_true rfl⟩) hP hS hA (cells' := 0) (slots' := 0) rfl rfl (fun H locs hP hS => ?_)
  refine z_ifB_eq (tgt := 31) hx hb dX6_areRight_19 (by decide) (fun c_19 => ?_) (fun c_19 => absurd c_19 (by omega))
  refine z_iconst hx hb dX6_areRight_31 ?_
  refine lv_istore (lv' := [(5, .int (zI 0)), (0, .ref h0), (1, .int (zI i)), (2, .int (zI a)), (3, .int (zI b)), (4, .int (zI mo))]) hx hb dX6_areRight_32 hl (by decide) rfl (fun ls hl => ?_)
  have hl := lv_sub hl [1, 2, 3, 4, 5, 0] rfl
  have hl : lv_has ls 6 [(0, .ref h0), (1, .int (zI i)), (2, .int (zI a)), (3, .int (zI b)), (4, .int (zI mo)), (5, .int (zI 0))] := hl
  refine lv_aload_n hx hb dX6_areRight_34 rfl (lv_at hl 0 rfl) ?_
  refine lv_iload hx hb dX6_areRight_35 (lv_at hl 5 rfl) ?_
  refine z_if_ne (tgt := 44) hx hb dX6_areRight_37 (by decide) (by omega) (fun c_37 => absurd c_37 (by omega)) (fun c_37 => ?_)
  refine z_iconst hx hb dX6_areRight_40 ?_
  refine lv_goto (tgt := 79) hx hb dX6_areRight_41 (by decide) ?_
  refine va_put (D := D) (ci := 5) (v := .int (zI 1)) (ty := .int) (C := RX6) (T := TX6) (N := 8) hx hb hts hi6 tyX6 tyX6_ok nmX6 hown hK hP hD hS 0 rfl rfl 7 (by decide) (hts (.fieldLink RX6 28 "ButterflyYardModel" "thrown" "I") (by decide +kernel)) (fun _ h9 => h9) rfl (by decide +kernel) rfl rfl (Nat.le_of_ble_eq_true rfl) dX6_areRight_79 (fun H locs hP hD hS => ?_)
  have hP : va_P D vwCl [(h0, .inr (5, [.ref ae, .ref al, .ref ap, .ref az, .ref ar, .int (zI np), .ref am, .int (zI 1)]))] H := hP
  have hD : va_D A [(h0, .inr (5, [.ref ae, .ref al, .ref ap, .ref az, .ref ar, .int (zI np), .ref am, .int (zI 1)]))] := hD
  refine lv_aload_n hx hb dX6_areRight_82 rfl (lv_at hl 0 rfl) ?_
  refine va_get (D := D) (ci := 5) (C := RX6) (T := TX6) (N := 8) hx hb hts hi6 hown hK hP 0 rfl rfl 7 (by decide) (hts (.fieldLink RX6 28 "ButterflyYardModel" "thrown" "I") (by decide +kernel)) (fun _ h9 => h9) rfl dX6_areRight_83 ?_
  refine z_if_ne (tgt := 93) hx hb dX6_areRight_86 (by decide) (by omega) (fun c_86 => ?_) (fun c_86 => absurd c_86 (by omega))
  refine z_iconst hx hb dX6_areRight_93 ?_
  exact z_iret hx hb hr hlocks (rfl) () (rfl) (trivial) hP hD hS dX6_areRight_94

set_option maxHeartbeats 4000000 in
set_option maxRecDepth 100000 in
theorem c_X6_areRight_1m (l : Launch) (D : va_G) (cI : ClassId) (h0 : Nat) (ae : Nat) (al : Nat) (ap : Nat) (az : Nat) (ar : Nat) (am : Nat) (np : Int) (th : Int) (i : Int) (a : Int) (b : Int) (mo : Int) (ha_i : -2147483648 ≤ i ∧ i ≤ 2147483647) (ha_a : -2147483648 ≤ a ∧ a ≤ 2147483647) (ha_b : -2147483648 ≤ b ∧ b ≤ 2147483647) (ha_mo : -2147483648 ≤ mo ∧ mo ≤ 2147483647) (hnp_ : 0 ≤ np ∧ np ≤ 8) (hi0 : 0 ≤ i ∧ i < np) (hr_a : 0 ≤ a ∧ a < 4) (hr_b : 0 ≤ b ∧ b < 4) (hmo : mo < 0) : zC l yX6_areRight wsX6_areRight ({ frames := 1, cells := 0, slots := 0, locals := 21 } : Room) D [(cI, .int)] [(h0, .inr (5, [.ref ae, .ref al, .ref ap, .ref az, .ref ar, .int (zI np), .ref am, .int (zI th)]))] [] [.ref h0, .int (zI i), .int (zI a), .int (zI b), .int (zI mo)] (S := Unit) (fun u => True) (fun u => some (.int (zI 0))) (fun u => [(h0, .inr (5, [.ref ae, .ref al, .ref ap, .ref az, .ref ar, .int (zI np), .ref am, .int (zI 1)]))]) := by
  refine z_start (cc := cX6_areRight) (maxL := 6) (ret := (some .boolean)) (own := RX6) (by decide) rfl rfl (Nat.le_of_ble_eq_true rfl) [(0, .ref h0), (1, .int (zI i)), (2, .int (zI a)), (3, .int (zI b)), (4, .int (zI mo))] rfl ?_
  intro pp ee s mm below meth cc A H ls hx hb hr hml hts hown hlocks hin hK hA hP hD hS hR0 hR hl
  have CF : CallFix pp mm cc cX6_areRight 6 s ([.ref h0, .int (zI i), .int (zI a), .int (zI b), .int (zI mo)] : List Value).toArray wsX6_areRight RX6 := ⟨hx, hb, hml, hown, hts⟩
  have hi6 : ∀ w ∈ wsX60, w ∈ wsX6_areRight := by decide +kernel
  refine lv_aload_n hx hb dX6_areRight_0 rfl (lv_at hl 0 rfl) ?_
  refine lv_iload_n hx hb dX6_areRight_1 rfl (lv_at hl 1 rfl) ?_
  have hRc := z_subR (ws := [(h0, .inr (5, [.ref ae, .ref al, .ref ap, .ref az, .ref ar, .int (zI np), .ref am, .int (zI th)]))]) (rs := []) (rc := [(h0, .inr (5, [.ref ae, .ref al, .ref ap, .ref az, .ref ar, .int (zI np), .ref am, .int (zI th)]))]) hP z_nilP (isR := [0]) rfl
  refine z_ro (ws := [(h0, .inr (5, [.ref ae, .ref al, .ref ap, .ref az, .ref ar, .int (zI np), .ref am, .int (zI th)]))]) (va_runV (As := [.int (zI i)]) (rest := []) CF (c_X6_isPlan l D h0 ae al ap az ar am np th i (by omega) (by omega) H.size) (cwV 1 hts gX6_areRight_X6_isPlan rfl rfl rfl (by decide +kernel) ⟨Nat.le_of_ble_eq_true rfl, Nat.le_of_ble_eq_true rfl⟩) (z_preV (va_recv hK hP (ci := 5) (q0 := 0) rfl rfl) z_nilP (z_nilD (A := A)) hRc z_noX (hK.sub (tys' := []) [] rfl)) rfl rfl hl.1 rfl (lv_room (Nat.le_of_ble_eq_true rfl)) dX6_areRight_2 ⟨Nat.le_of_ble_eq_true rfl, Nat.le_of_ble_eq_true rfl⟩) hP hS hA (cells' := 0) (slots' := 0) rfl rfl (fun H locs hP hS => ?_)
  refine z_ifB_eq (tgt := 31) hx hb dX6_areRight_5 (by decide) (fun c_5 => absurd c_5 (by omega)) (fun c_5 => ?_)
  refine lv_iload_n hx hb dX6_areRight_8 rfl (lv_at hl 2 rfl) ?_
  have hRc : va_P D vwCl [] H := z_nilP
  refine z_ro (ws := [(h0, .inr (5, [.ref ae, .ref al, .ref ap, .ref az, .ref ar, .int (zI np), .ref am, .int (zI th)]))]) (va_runS (As := [.int (zI a)]) (rest := []) CF (c_X6_isRow l D a (by omega) H.size) (va_cwS 1 hts gX6_areRight_X6_isRow rfl rfl rfl (by decide +kernel) ⟨Nat.le_of_ble_eq_true rfl, Nat.le_of_ble_eq_true rfl⟩) (z_preS z_nilP (z_nilD (A := A)) hRc z_noX (hK.sub (tys' := []) [] rfl)) rfl rfl hl.1 rfl (lv_room (Nat.le_of_ble_eq_true rfl)) dX6_areRight_9 ⟨Nat.le_of_ble_eq_true rfl, Nat.le_of_ble_eq_true rfl⟩) hP hS hA (cells' := 0) (slots' := 0) rfl rfl (fun H locs hP hS => ?_)
  refine z_ifB_eq (tgt := 31) hx hb dX6_areRight_12 (by decide) (fun c_12 => absurd c_12 (by omega)) (fun c_12 => ?_)
  refine lv_iload_n hx hb dX6_areRight_15 rfl (lv_at hl 3 rfl) ?_
  have hRc : va_P D vwCl [] H := z_nilP
  refine z_ro (ws := [(h0, .inr (5, [.ref ae, .ref al, .ref ap, .ref az, .ref ar, .int (zI np), .ref am, .int (zI th)]))]) (va_runS (As := [.int (zI b)]) (rest := []) CF (c_X6_isRow l D b (by omega) H.size) (va_cwS 1 hts gX6_areRight_X6_isRow rfl rfl rfl (by decide +kernel) ⟨Nat.le_of_ble_eq_true rfl, Nat.le_of_ble_eq_true rfl⟩) (z_preS z_nilP (z_nilD (A := A)) hRc z_noX (hK.sub (tys' := []) [] rfl)) rfl rfl hl.1 rfl (lv_room (Nat.le_of_ble_eq_true rfl)) dX6_areRight_16 ⟨Nat.le_of_ble_eq_true rfl, Nat.le_of_ble_eq_true rfl⟩) hP hS hA (cells' := 0) (slots' := 0) rfl rfl (fun H locs hP hS => ?_)
  refine z_ifB_eq (tgt := 31) hx hb dX6_areRight_19 (by decide) (fun c_19 => absurd c_19 (by omega)) (fun c_19 => ?_)
  refine lv_iload hx hb dX6_areRight_22 (lv_at hl 4 rfl) ?_
  refine z_if_lt (tgt := 31) hx hb dX6_areRight_24 (by decide) (by omega) (fun c_24 => ?_) (fun c_24 => absurd c_24 (by omega))
  refine z_iconst hx hb dX6_areRight_31 ?_
  refine lv_istore (lv' := [(5, .int (zI 0)), (0, .ref h0), (1, .int (zI i)), (2, .int (zI a)), (3, .int (zI b)), (4, .int (zI mo))]) hx hb dX6_areRight_32 hl (by decide) rfl (fun ls hl => ?_)
  have hl := lv_sub hl [1, 2, 3, 4, 5, 0] rfl
  have hl : lv_has ls 6 [(0, .ref h0), (1, .int (zI i)), (2, .int (zI a)), (3, .int (zI b)), (4, .int (zI mo)), (5, .int (zI 0))] := hl
  refine lv_aload_n hx hb dX6_areRight_34 rfl (lv_at hl 0 rfl) ?_
  refine lv_iload hx hb dX6_areRight_35 (lv_at hl 5 rfl) ?_
  refine z_if_ne (tgt := 44) hx hb dX6_areRight_37 (by decide) (by omega) (fun c_37 => absurd c_37 (by omega)) (fun c_37 => ?_)
  refine z_iconst hx hb dX6_areRight_40 ?_
  refine lv_goto (tgt := 79) hx hb dX6_areRight_41 (by decide) ?_
  refine va_put (D := D) (ci := 5) (v := .int (zI 1)) (ty := .int) (C := RX6) (T := TX6) (N := 8) hx hb hts hi6 tyX6 tyX6_ok nmX6 hown hK hP hD hS 0 rfl rfl 7 (by decide) (hts (.fieldLink RX6 28 "ButterflyYardModel" "thrown" "I") (by decide +kernel)) (fun _ h9 => h9) rfl (by decide +kernel) rfl rfl (Nat.le_of_ble_eq_true rfl) dX6_areRight_79 (fun H locs hP hD hS => ?_)
  have hP : va_P D vwCl [(h0, .inr (5, [.ref ae, .ref al, .ref ap, .ref az, .ref ar, .int (zI np), .ref am, .int (zI 1)]))] H := hP
  have hD : va_D A [(h0, .inr (5, [.ref ae, .ref al, .ref ap, .ref az, .ref ar, .int (zI np), .ref am, .int (zI 1)]))] := hD
  refine lv_aload_n hx hb dX6_areRight_82 rfl (lv_at hl 0 rfl) ?_
  refine va_get (D := D) (ci := 5) (C := RX6) (T := TX6) (N := 8) hx hb hts hi6 hown hK hP 0 rfl rfl 7 (by decide) (hts (.fieldLink RX6 28 "ButterflyYardModel" "thrown" "I") (by decide +kernel)) (fun _ h9 => h9) rfl dX6_areRight_83 ?_
  refine z_if_ne (tgt := 93) hx hb dX6_areRight_86 (by decide) (by omega) (fun c_86 => ?_) (fun c_86 => absurd c_86 (by omega))
  refine z_iconst hx hb dX6_areRight_93 ?_
  exact z_iret hx hb hr hlocks (rfl) () (rfl) (trivial) hP hD hS dX6_areRight_94

set_option maxHeartbeats 4000000 in
set_option maxRecDepth 100000 in
theorem c_X6_areRight_2a (l : Launch) (D : va_G) (cI : ClassId) (h0 : Nat) (ae : Nat) (al : Nat) (ap : Nat) (az : Nat) (ar : Nat) (am : Nat) (np : Int) (th : Int) (xl : Int → Int) (xz : Int → Int) (i : Int) (a : Int) (b : Int) (mo : Int) (ha_i : -2147483648 ≤ i ∧ i ≤ 2147483647) (ha_a : -2147483648 ≤ a ∧ a ≤ 2147483647) (ha_b : -2147483648 ≤ b ∧ b ≤ 2147483647) (ha_mo : -2147483648 ≤ mo ∧ mo ≤ 2147483647) (hnp_ : 0 ≤ np ∧ np ≤ 8) (hi0 : 0 ≤ i ∧ i < np) (hz_ : 1 ≤ xz i ∧ xz i ≤ 64) (hr_a : 0 ≤ a ∧ a < 4) (hr_b : 0 ≤ b ∧ b < 4) (hxl_a : 0 ≤ xl a ∧ xl a ≤ 64) (hxl_b : 0 ≤ xl b ∧ xl b ≤ 64) (hmo : 0 ≤ mo) (hla : xz i < xl a) : zC l yX6_areRight wsX6_areRight ({ frames := 1, cells := 0, slots := 0, locals := 21 } : Room) D [(cI, .int)] [(h0, .inr (5, [.ref ae, .ref al, .ref ap, .ref az, .ref ar, .int (zI np), .ref am, .int (zI th)]))] [(al, .inl (cI, 4, .inl (zA xl))), (az, .inl (cI, 8, .inl (zA xz)))] [.ref h0, .int (zI i), .int (zI a), .int (zI b), .int (zI mo)] (S := Unit) (fun u => True) (fun u => some (.int (zI 0))) (fun u => [(h0, .inr (5, [.ref ae, .ref al, .ref ap, .ref az, .ref ar, .int (zI np), .ref am, .int (zI 2)]))]) := by
  refine z_start (cc := cX6_areRight) (maxL := 6) (ret := (some .boolean)) (own := RX6) (by decide) rfl rfl (Nat.le_of_ble_eq_true rfl) [(0, .ref h0), (1, .int (zI i)), (2, .int (zI a)), (3, .int (zI b)), (4, .int (zI mo))] rfl ?_
  intro pp ee s mm below meth cc A H ls hx hb hr hml hts hown hlocks hin hK hA hP hD hS hR0 hR hl
  have CF : CallFix pp mm cc cX6_areRight 6 s ([.ref h0, .int (zI i), .int (zI a), .int (zI b), .int (zI mo)] : List Value).toArray wsX6_areRight RX6 := ⟨hx, hb, hml, hown, hts⟩
  have hi6 : ∀ w ∈ wsX60, w ∈ wsX6_areRight := by decide +kernel
  refine lv_aload_n hx hb dX6_areRight_0 rfl (lv_at hl 0 rfl) ?_
  refine lv_iload_n hx hb dX6_areRight_1 rfl (lv_at hl 1 rfl) ?_
  have hRc := z_subR (ws := [(h0, .inr (5, [.ref ae, .ref al, .ref ap, .ref az, .ref ar, .int (zI np), .ref am, .int (zI th)]))]) (rs := [(al, .inl (cI, 4, .inl (zA xl))), (az, .inl (cI, 8, .inl (zA xz)))]) (rc := [(h0, .inr (5, [.ref ae, .ref al, .ref ap, .ref az, .ref ar, .int (zI np), .ref am, .int (zI th)]))]) hP hR (isR := [0]) rfl
  refine z_ro (ws := [(h0, .inr (5, [.ref ae, .ref al, .ref ap, .ref az, .ref ar, .int (zI np), .ref am, .int (zI th)]))]) (va_runV (As := [.int (zI i)]) (rest := []) CF (c_X6_isPlan l D h0 ae al ap az ar am np th i (by omega) (by omega) H.size) (cwV 1 hts gX6_areRight_X6_isPlan rfl rfl rfl (by decide +kernel) ⟨Nat.le_of_ble_eq_true rfl, Nat.le_of_ble_eq_true rfl⟩) (z_preV (va_recv hK hP (ci := 5) (q0 := 0) rfl rfl) z_nilP (z_nilD (A := A)) hRc z_noX (hK.sub (tys' := []) [] rfl)) rfl rfl hl.1 rfl (lv_room (Nat.le_of_ble_eq_true rfl)) dX6_areRight_2 ⟨Nat.le_of_ble_eq_true rfl, Nat.le_of_ble_eq_true rfl⟩) hP hS hA (cells' := 0) (slots' := 0) rfl rfl (fun H locs hP hS => ?_)
  have hR := hR0.at hS
  refine z_ifB_eq (tgt := 31) hx hb dX6_areRight_5 (by decide) (fun c_5 => absurd c_5 (by omega)) (fun c_5 => ?_)
  refine lv_iload_n hx hb dX6_areRight_8 rfl (lv_at hl 2 rfl) ?_
  have hRc : va_P D vwCl [] H := z_nilP
  refine z_ro (ws := [(h0, .inr (5, [.ref ae, .ref al, .ref ap, .ref az, .ref ar, .int (zI np), .ref am, .int (zI th)]))]) (va_runS (As := [.int (zI a)]) (rest := []) CF (c_X6_isRow l D a (by omega) H.size) (va_cwS 1 hts gX6_areRight_X6_isRow rfl rfl rfl (by decide +kernel) ⟨Nat.le_of_ble_eq_true rfl, Nat.le_of_ble_eq_true rfl⟩) (z_preS z_nilP (z_nilD (A := A)) hRc z_noX (hK.sub (tys' := []) [] rfl)) rfl rfl hl.1 rfl (lv_room (Nat.le_of_ble_eq_true rfl)) dX6_areRight_9 ⟨Nat.le_of_ble_eq_true rfl, Nat.le_of_ble_eq_true rfl⟩) hP hS hA (cells' := 0) (slots' := 0) rfl rfl (fun H locs hP hS => ?_)
  have hR := hR0.at hS
  refine z_ifB_eq (tgt := 31) hx hb dX6_areRight_12 (by decide) (fun c_12 => absurd c_12 (by omega)) (fun c_12 => ?_)
  refine lv_iload_n hx hb dX6_areRight_15 rfl (lv_at hl 3 rfl) ?_
  have hRc : va_P D vwCl [] H := z_nilP
  refine z_ro (ws := [(h0, .inr (5, [.ref ae, .ref al, .ref ap, .ref az, .ref ar, .int (zI np), .ref am, .int (zI th)]))]) (va_runS (As := [.int (zI b)]) (rest := []) CF (c_X6_isRow l D b (by omega) H.size) (va_cwS 1 hts gX6_areRight_X6_isRow rfl rfl rfl (by decide +kernel) ⟨Nat.le_of_ble_eq_true rfl, Nat.le_of_ble_eq_true rfl⟩) (z_preS z_nilP (z_nilD (A := A)) hRc z_noX (hK.sub (tys' := []) [] rfl)) rfl rfl hl.1 rfl (lv_room (Nat.le_of_ble_eq_true rfl)) dX6_areRight_16 ⟨Nat.le_of_ble_eq_true rfl, Nat.le_of_ble_eq_true rfl⟩) hP hS hA (cells' := 0) (slots' := 0) rfl rfl (fun H locs hP hS => ?_)
  have hR := hR0.at hS
  refine z_ifB_eq (tgt := 31) hx hb dX6_areRight_19 (by decide) (fun c_19 => absurd c_19 (by omega)) (fun c_19 => ?_)
  refine lv_iload hx hb dX6_areRight_22 (lv_at hl 4 rfl) ?_
  refine z_if_lt (tgt := 31) hx hb dX6_areRight_24 (by decide) (by omega) (fun c_24 => absurd c_24 (by omega)) (fun c_24 => ?_)
  refine z_iconst hx hb dX6_areRight_27 ?_
  refine lv_goto (tgt := 32) hx hb dX6_areRight_28 (by decide) ?_
  refine lv_istore (lv' := [(5, .int (zI 1)), (0, .ref h0), (1, .int (zI i)), (2, .int (zI a)), (3, .int (zI b)), (4, .int (zI mo))]) hx hb dX6_areRight_32 hl (by decide) rfl (fun ls hl => ?_)
  have hl := lv_sub hl [1, 2, 3, 4, 5, 0] rfl
  have hl : lv_has ls 6 [(0, .ref h0), (1, .int (zI i)), (2, .int (zI a)), (3, .int (zI b)), (4, .int (zI mo)), (5, .int (zI 1))] := hl
  refine lv_aload_n hx hb dX6_areRight_34 rfl (lv_at hl 0 rfl) ?_
  refine lv_iload hx hb dX6_areRight_35 (lv_at hl 5 rfl) ?_
  refine z_if_ne (tgt := 44) hx hb dX6_areRight_37 (by decide) (by omega) (fun c_37 => ?_) (fun c_37 => absurd c_37 (by omega))
  refine lv_aload_n hx hb dX6_areRight_44 rfl (lv_at hl 0 rfl) ?_
  refine va_get (D := D) (ci := 5) (C := RX6) (T := TX6) (N := 8) hx hb hts hi6 hown hK hP 0 rfl rfl 1 (by decide) (hts (.fieldLink RX6 13 "ButterflyYardModel" "lengths" "[I") (by decide +kernel)) (fun _ h9 => h9) rfl dX6_areRight_45 ?_
  refine lv_iload_n hx hb dX6_areRight_48 rfl (lv_at hl 2 rfl) ?_
  refine z_iald (cA := cI) (n := 4) (g := xl) hx hb hK hR 0 0 rfl rfl rfl (by omega) dX6_areRight_49 ?_
  refine lv_aload_n hx hb dX6_areRight_50 rfl (lv_at hl 0 rfl) ?_
  refine va_get (D := D) (ci := 5) (C := RX6) (T := TX6) (N := 8) hx hb hts hi6 hown hK hP 0 rfl rfl 3 (by decide) (hts (.fieldLink RX6 19 "ButterflyYardModel" "sizes" "[I") (by decide +kernel)) (fun _ h9 => h9) rfl dX6_areRight_51 ?_
  refine lv_iload_n hx hb dX6_areRight_54 rfl (lv_at hl 1 rfl) ?_
  refine z_iald (cA := cI) (n := 8) (g := xz) hx hb hK hR 1 0 rfl rfl rfl (by omega) dX6_areRight_55 ?_
  refine z_icmp_gt (tgt := 74) hx hb dX6_areRight_56 (by decide) (by omega) (fun c_56 => ?_) (fun c_56 => absurd c_56 (by omega))
  refine z_iconst hx hb dX6_areRight_74 ?_
  refine lv_goto (tgt := 79) hx hb dX6_areRight_75 (by decide) ?_
  refine va_put (D := D) (ci := 5) (v := .int (zI 2)) (ty := .int) (C := RX6) (T := TX6) (N := 8) hx hb hts hi6 tyX6 tyX6_ok nmX6 hown hK hP hD hS 0 rfl rfl 7 (by decide) (hts (.fieldLink RX6 28 "ButterflyYardModel" "thrown" "I") (by decide +kernel)) (fun _ h9 => h9) rfl (by decide +kernel) rfl rfl (Nat.le_of_ble_eq_true rfl) dX6_areRight_79 (fun H locs hP hD hS => ?_)
  have hP : va_P D vwCl [(h0, .inr (5, [.ref ae, .ref al, .ref ap, .ref az, .ref ar, .int (zI np), .ref am, .int (zI 2)]))] H := hP
  have hD : va_D A [(h0, .inr (5, [.ref ae, .ref al, .ref ap, .ref az, .ref ar, .int (zI np), .ref am, .int (zI 2)]))] := hD
  have hR := hR0.at hS
  refine lv_aload_n hx hb dX6_areRight_82 rfl (lv_at hl 0 rfl) ?_
  refine va_get (D := D) (ci := 5) (C := RX6) (T := TX6) (N := 8) hx hb hts hi6 hown hK hP 0 rfl rfl 7 (by decide) (hts (.fieldLink RX6 28 "ButterflyYardModel" "thrown" "I") (by decide +kernel)) (fun _ h9 => h9) rfl dX6_areRight_83 ?_
  refine z_if_ne (tgt := 93) hx hb dX6_areRight_86 (by decide) (by omega) (fun c_86 => ?_) (fun c_86 => absurd c_86 (by omega))
  refine z_iconst hx hb dX6_areRight_93 ?_
  exact z_iret hx hb hr hlocks (rfl) () (rfl) (trivial) hP hD hS dX6_areRight_94

set_option maxHeartbeats 4000000 in
set_option maxRecDepth 100000 in
theorem c_X6_areRight_2b (l : Launch) (D : va_G) (cI : ClassId) (h0 : Nat) (ae : Nat) (al : Nat) (ap : Nat) (az : Nat) (ar : Nat) (am : Nat) (np : Int) (th : Int) (xl : Int → Int) (xz : Int → Int) (i : Int) (a : Int) (b : Int) (mo : Int) (ha_i : -2147483648 ≤ i ∧ i ≤ 2147483647) (ha_a : -2147483648 ≤ a ∧ a ≤ 2147483647) (ha_b : -2147483648 ≤ b ∧ b ≤ 2147483647) (ha_mo : -2147483648 ≤ mo ∧ mo ≤ 2147483647) (hnp_ : 0 ≤ np ∧ np ≤ 8) (hi0 : 0 ≤ i ∧ i < np) (hz_ : 1 ≤ xz i ∧ xz i ≤ 64) (hr_a : 0 ≤ a ∧ a < 4) (hr_b : 0 ≤ b ∧ b < 4) (hxl_a : 0 ≤ xl a ∧ xl a ≤ 64) (hxl_b : 0 ≤ xl b ∧ xl b ≤ 64) (hmo : 0 ≤ mo) (hla : xl a ≤ xz i) (hlb : xz i < xl b) : zC l yX6_areRight wsX6_areRight ({ frames := 1, cells := 0, slots := 0, locals := 21 } : Room) D [(cI, .int)] [(h0, .inr (5, [.ref ae, .ref al, .ref ap, .ref az, .ref ar, .int (zI np), .ref am, .int (zI th)]))] [(al, .inl (cI, 4, .inl (zA xl))), (az, .inl (cI, 8, .inl (zA xz)))] [.ref h0, .int (zI i), .int (zI a), .int (zI b), .int (zI mo)] (S := Unit) (fun u => True) (fun u => some (.int (zI 0))) (fun u => [(h0, .inr (5, [.ref ae, .ref al, .ref ap, .ref az, .ref ar, .int (zI np), .ref am, .int (zI 2)]))]) := by
  refine z_start (cc := cX6_areRight) (maxL := 6) (ret := (some .boolean)) (own := RX6) (by decide) rfl rfl (Nat.le_of_ble_eq_true rfl) [(0, .ref h0), (1, .int (zI i)), (2, .int (zI a)), (3, .int (zI b)), (4, .int (zI mo))] rfl ?_
  intro pp ee s mm below meth cc A H ls hx hb hr hml hts hown hlocks hin hK hA hP hD hS hR0 hR hl
  have CF : CallFix pp mm cc cX6_areRight 6 s ([.ref h0, .int (zI i), .int (zI a), .int (zI b), .int (zI mo)] : List Value).toArray wsX6_areRight RX6 := ⟨hx, hb, hml, hown, hts⟩
  have hi6 : ∀ w ∈ wsX60, w ∈ wsX6_areRight := by decide +kernel
  refine lv_aload_n hx hb dX6_areRight_0 rfl (lv_at hl 0 rfl) ?_
  refine lv_iload_n hx hb dX6_areRight_1 rfl (lv_at hl 1 rfl) ?_
  have hRc := z_subR (ws := [(h0, .inr (5, [.ref ae, .ref al, .ref ap, .ref az, .ref ar, .int (zI np), .ref am, .int (zI th)]))]) (rs := [(al, .inl (cI, 4, .inl (zA xl))), (az, .inl (cI, 8, .inl (zA xz)))]) (rc := [(h0, .inr (5, [.ref ae, .ref al, .ref ap, .ref az, .ref ar, .int (zI np), .ref am, .int (zI th)]))]) hP hR (isR := [0]) rfl
  refine z_ro (ws := [(h0, .inr (5, [.ref ae, .ref al, .ref ap, .ref az, .ref ar, .int (zI np), .ref am, .int (zI th)]))]) (va_runV (As := [.int (zI i)]) (rest := []) CF (c_X6_isPlan l D h0 ae al ap az ar am np th i (by omega) (by omega) H.size) (cwV 1 hts gX6_areRight_X6_isPlan rfl rfl rfl (by decide +kernel) ⟨Nat.le_of_ble_eq_true rfl, Nat.le_of_ble_eq_true rfl⟩) (z_preV (va_recv hK hP (ci := 5) (q0 := 0) rfl rfl) z_nilP (z_nilD (A := A)) hRc z_noX (hK.sub (tys' := []) [] rfl)) rfl rfl hl.1 rfl (lv_room (Nat.le_of_ble_eq_true rfl)) dX6_areRight_2 ⟨Nat.le_of_ble_eq_true rfl, Nat.le_of_ble_eq_true rfl⟩) hP hS hA (cells' := 0) (slots' := 0) rfl rfl (fun H locs hP hS => ?_)
  have hR := hR0.at hS
  refine z_ifB_eq (tgt := 31) hx hb dX6_areRight_5 (by decide) (fun c_5 => absurd c_5 (by omega)) (fun c_5 => ?_)
  refine lv_iload_n hx hb dX6_areRight_8 rfl (lv_at hl 2 rfl) ?_
  have hRc : va_P D vwCl [] H := z_nilP
  refine z_ro (ws := [(h0, .inr (5, [.ref ae, .ref al, .ref ap, .ref az, .ref ar, .int (zI np), .ref am, .int (zI th)]))]) (va_runS (As := [.int (zI a)]) (rest := []) CF (c_X6_isRow l D a (by omega) H.size) (va_cwS 1 hts gX6_areRight_X6_isRow rfl rfl rfl (by decide +kernel) ⟨Nat.le_of_ble_eq_true rfl, Nat.le_of_ble_eq_true rfl⟩) (z_preS z_nilP (z_nilD (A := A)) hRc z_noX (hK.sub (tys' := []) [] rfl)) rfl rfl hl.1 rfl (lv_room (Nat.le_of_ble_eq_true rfl)) dX6_areRight_9 ⟨Nat.le_of_ble_eq_true rfl, Nat.le_of_ble_eq_true rfl⟩) hP hS hA (cells' := 0) (slots' := 0) rfl rfl (fun H locs hP hS => ?_)
  have hR := hR0.at hS
  refine z_ifB_eq (tgt := 31) hx hb dX6_areRight_12 (by decide) (fun c_12 => absurd c_12 (by omega)) (fun c_12 => ?_)
  refine lv_iload_n hx hb dX6_areRight_15 rfl (lv_at hl 3 rfl) ?_
  have hRc : va_P D vwCl [] H := z_nilP
  refine z_ro (ws := [(h0, .inr (5, [.ref ae, .ref al, .ref ap, .ref az, .ref ar, .int (zI np), .ref am, .int (zI th)]))]) (va_runS (As := [.int (zI b)]) (rest := []) CF (c_X6_isRow l D b (by omega) H.size) (va_cwS 1 hts gX6_areRight_X6_isRow rfl rfl rfl (by decide +kernel) ⟨Nat.le_of_ble_eq_true rfl, Nat.le_of_ble_eq_true rfl⟩) (z_preS z_nilP (z_nilD (A := A)) hRc z_noX (hK.sub (tys' := []) [] rfl)) rfl rfl hl.1 rfl (lv_room (Nat.le_of_ble_eq_true rfl)) dX6_areRight_16 ⟨Nat.le_of_ble_eq_true rfl, Nat.le_of_ble_eq_true rfl⟩) hP hS hA (cells' := 0) (slots' := 0) rfl rfl (fun H locs hP hS => ?_)
  have hR := hR0.at hS
  refine z_ifB_eq (tgt := 31) hx hb dX6_areRight_19 (by decide) (fun c_19 => absurd c_19 (by omega)) (fun c_19 => ?_)
  refine lv_iload hx hb dX6_areRight_22 (lv_at hl 4 rfl) ?_
  refine z_if_lt (tgt := 31) hx hb dX6_areRight_24 (by decide) (by omega) (fun c_24 => absurd c_24 (by omega)) (fun c_24 => ?_)
  refine z_iconst hx hb dX6_areRight_27 ?_
  refine lv_goto (tgt := 32) hx hb dX6_areRight_28 (by decide) ?_
  refine lv_istore (lv' := [(5, .int (zI 1)), (0, .ref h0), (1, .int (zI i)), (2, .int (zI a)), (3, .int (zI b)), (4, .int (zI mo))]) hx hb dX6_areRight_32 hl (by decide) rfl (fun ls hl => ?_)
  have hl := lv_sub hl [1, 2, 3, 4, 5, 0] rfl
  have hl : lv_has ls 6 [(0, .ref h0), (1, .int (zI i)), (2, .int (zI a)), (3, .int (zI b)), (4, .int (zI mo)), (5, .int (zI 1))] := hl
  refine lv_aload_n hx hb dX6_areRight_34 rfl (lv_at hl 0 rfl) ?_
  refine lv_iload hx hb dX6_areRight_35 (lv_at hl 5 rfl) ?_
  refine z_if_ne (tgt := 44) hx hb dX6_areRight_37 (by decide) (by omega) (fun c_37 => ?_) (fun c_37 => absurd c_37 (by omega))
  refine lv_aload_n hx hb dX6_areRight_44 rfl (lv_at hl 0 rfl) ?_
  refine va_get (D := D) (ci := 5) (C := RX6) (T := TX6) (N := 8) hx hb hts hi6 hown hK hP 0 rfl rfl 1 (by decide) (hts (.fieldLink RX6 13 "ButterflyYardModel" "lengths" "[I") (by decide +kernel)) (fun _ h9 => h9) rfl dX6_areRight_45 ?_
  refine lv_iload_n hx hb dX6_areRight_48 rfl (lv_at hl 2 rfl) ?_
  refine z_iald (cA := cI) (n := 4) (g := xl) hx hb hK hR 0 0 rfl rfl rfl (by omega) dX6_areRight_49 ?_
  refine lv_aload_n hx hb dX6_areRight_50 rfl (lv_at hl 0 rfl) ?_
  refine va_get (D := D) (ci := 5) (C := RX6) (T := TX6) (N := 8) hx hb hts hi6 hown hK hP 0 rfl rfl 3 (by decide) (hts (.fieldLink RX6 19 "ButterflyYardModel" "sizes" "[I") (by decide +kernel)) (fun _ h9 => h9) rfl dX6_areRight_51 ?_
  refine lv_iload_n hx hb dX6_areRight_54 rfl (lv_at hl 1 rfl) ?_
  refine z_iald (cA := cI) (n := 8) (g := xz) hx hb hK hR 1 0 rfl rfl rfl (by omega) dX6_areRight_55 ?_
  refine z_icmp_gt (tgt := 74) hx hb dX6_areRight_56 (by decide) (by omega) (fun c_56 => absurd c_56 (by omega)) (fun c_56 => ?_)
  refine lv_aload_n hx hb dX6_areRight_59 rfl (lv_at hl 0 rfl) ?_
  refine va_get (D := D) (ci := 5) (C := RX6) (T := TX6) (N := 8) hx hb hts hi6 hown hK hP 0 rfl rfl 1 (by decide) (hts (.fieldLink RX6 13 "ButterflyYardModel" "lengths" "[I") (by decide +kernel)) (fun _ h9 => h9) rfl dX6_areRight_60 ?_
  refine lv_iload_n hx hb dX6_areRight_63 rfl (lv_at hl 3 rfl) ?_
  refine z_iald (cA := cI) (n := 4) (g := xl) hx hb hK hR 0 0 rfl rfl rfl (by omega) dX6_areRight_64 ?_
  refine lv_aload_n hx hb dX6_areRight_65 rfl (lv_at hl 0 rfl) ?_
  refine va_get (D := D) (ci := 5) (C := RX6) (T := TX6) (N := 8) hx hb hts hi6 hown hK hP 0 rfl rfl 3 (by decide) (hts (.fieldLink RX6 19 "ButterflyYardModel" "sizes" "[I") (by decide +kernel)) (fun _ h9 => h9) rfl dX6_areRight_66 ?_
  refine lv_iload_n hx hb dX6_areRight_69 rfl (lv_at hl 1 rfl) ?_
  refine z_iald (cA := cI) (n := 8) (g := xz) hx hb hK hR 1 0 rfl rfl rfl (by omega) dX6_areRight_70 ?_
  refine z_icmp_le (tgt := 78) hx hb dX6_areRight_71 (by decide) (by omega) (fun c_71 => absurd c_71 (by omega)) (fun c_71 => ?_)
  refine z_iconst hx hb dX6_areRight_74 ?_
  refine lv_goto (tgt := 79) hx hb dX6_areRight_75 (by decide) ?_
  refine va_put (D := D) (ci := 5) (v := .int (zI 2)) (ty := .int) (C := RX6) (T := TX6) (N := 8) hx hb hts hi6 tyX6 tyX6_ok nmX6 hown hK hP hD hS 0 rfl rfl 7 (by decide) (hts (.fieldLink RX6 28 "ButterflyYardModel" "thrown" "I") (by decide +kernel)) (fun _ h9 => h9) rfl (by decide +kernel) rfl rfl (Nat.le_of_ble_eq_true rfl) dX6_areRight_79 (fun H locs hP hD hS => ?_)
  have hP : va_P D vwCl [(h0, .inr (5, [.ref ae, .ref al, .ref ap, .ref az, .ref ar, .int (zI np), .ref am, .int (zI 2)]))] H := hP
  have hD : va_D A [(h0, .inr (5, [.ref ae, .ref al, .ref ap, .ref az, .ref ar, .int (zI np), .ref am, .int (zI 2)]))] := hD
  have hR := hR0.at hS
  refine lv_aload_n hx hb dX6_areRight_82 rfl (lv_at hl 0 rfl) ?_
  refine va_get (D := D) (ci := 5) (C := RX6) (T := TX6) (N := 8) hx hb hts hi6 hown hK hP 0 rfl rfl 7 (by decide) (hts (.fieldLink RX6 28 "ButterflyYardModel" "thrown" "I") (by decide +kernel)) (fun _ h9 => h9) rfl dX6_areRight_83 ?_
  refine z_if_ne (tgt := 93) hx hb dX6_areRight_86 (by decide) (by omega) (fun c_86 => ?_) (fun c_86 => absurd c_86 (by omega))
  refine z_iconst hx hb dX6_areRight_93 ?_
  exact z_iret hx hb hr hlocks (rfl) () (rfl) (trivial) hP hD hS dX6_areRight_94

set_option maxHeartbeats 4000000 in
set_option maxRecDepth 100000 in
theorem c_X6_areRight_ok (l : Launch) (D : va_G) (cI : ClassId) (h0 : Nat) (ae : Nat) (al : Nat) (ap : Nat) (az : Nat) (ar : Nat) (am : Nat) (np : Int) (th : Int) (xl : Int → Int) (xz : Int → Int) (i : Int) (a : Int) (b : Int) (mo : Int) (ha_i : -2147483648 ≤ i ∧ i ≤ 2147483647) (ha_a : -2147483648 ≤ a ∧ a ≤ 2147483647) (ha_b : -2147483648 ≤ b ∧ b ≤ 2147483647) (ha_mo : -2147483648 ≤ mo ∧ mo ≤ 2147483647) (hnp_ : 0 ≤ np ∧ np ≤ 8) (hi0 : 0 ≤ i ∧ i < np) (hz_ : 1 ≤ xz i ∧ xz i ≤ 64) (hr_a : 0 ≤ a ∧ a < 4) (hr_b : 0 ≤ b ∧ b < 4) (hxl_a : 0 ≤ xl a ∧ xl a ≤ 64) (hxl_b : 0 ≤ xl b ∧ xl b ≤ 64) (hmo : 0 ≤ mo) (hla : xl a ≤ xz i) (hlb : xl b ≤ xz i) : zC l yX6_areRight wsX6_areRight ({ frames := 1, cells := 0, slots := 0, locals := 21 } : Room) D [(cI, .int)] [(h0, .inr (5, [.ref ae, .ref al, .ref ap, .ref az, .ref ar, .int (zI np), .ref am, .int (zI th)]))] [(al, .inl (cI, 4, .inl (zA xl))), (az, .inl (cI, 8, .inl (zA xz)))] [.ref h0, .int (zI i), .int (zI a), .int (zI b), .int (zI mo)] (S := Unit) (fun u => True) (fun u => some (.int (zI 1))) (fun u => [(h0, .inr (5, [.ref ae, .ref al, .ref ap, .ref az, .ref ar, .int (zI np), .ref am, .int (zI 0)]))]) := by
  refine z_start (cc := cX6_areRight) (maxL := 6) (ret := (some .boolean)) (own := RX6) (by decide) rfl rfl (Nat.le_of_ble_eq_true rfl) [(0, .ref h0), (1, .int (zI i)), (2, .int (zI a)), (3, .int (zI b)), (4, .int (zI mo))] rfl ?_
  intro pp ee s mm below meth cc A H ls hx hb hr hml hts hown hlocks hin hK hA hP hD hS hR0 hR hl
  have CF : CallFix pp mm cc cX6_areRight 6 s ([.ref h0, .int (zI i), .int (zI a), .int (zI b), .int (zI mo)] : List Value).toArray wsX6_areRight RX6 := ⟨hx, hb, hml, hown, hts⟩
  have hi6 : ∀ w ∈ wsX60, w ∈ wsX6_areRight := by decide +kernel
  refine lv_aload_n hx hb dX6_areRight_0 rfl (lv_at hl 0 rfl) ?_
  refine lv_iload_n hx hb dX6_areRight_1 rfl (lv_at hl 1 rfl) ?_
  have hRc := z_subR (ws := [(h0, .inr (5, [.ref ae, .ref al, .ref ap, .ref az, .ref ar, .int (zI np), .ref am, .int (zI th)]))]) (rs := [(al, .inl (cI, 4, .inl (zA xl))), (az, .inl (cI, 8, .inl (zA xz)))]) (rc := [(h0, .inr (5, [.ref ae, .ref al, .ref ap, .ref az, .ref ar, .int (zI np), .ref am, .int (zI th)]))]) hP hR (isR := [0]) rfl
  refine z_ro (ws := [(h0, .inr (5, [.ref ae, .ref al, .ref ap, .ref az, .ref ar, .int (zI np), .ref am, .int (zI th)]))]) (va_runV (As := [.int (zI i)]) (rest := []) CF (c_X6_isPlan l D h0 ae al ap az ar am np th i (by omega) (by omega) H.size) (cwV 1 hts gX6_areRight_X6_isPlan rfl rfl rfl (by decide +kernel) ⟨Nat.le_of_ble_eq_true rfl, Nat.le_of_ble_eq_true rfl⟩) (z_preV (va_recv hK hP (ci := 5) (q0 := 0) rfl rfl) z_nilP (z_nilD (A := A)) hRc z_noX (hK.sub (tys' := []) [] rfl)) rfl rfl hl.1 rfl (lv_room (Nat.le_of_ble_eq_true rfl)) dX6_areRight_2 ⟨Nat.le_of_ble_eq_true rfl, Nat.le_of_ble_eq_true rfl⟩) hP hS hA (cells' := 0) (slots' := 0) rfl rfl (fun H locs hP hS => ?_)
  have hR := hR0.at hS
  refine z_ifB_eq (tgt := 31) hx hb dX6_areRight_5 (by decide) (fun c_5 => absurd c_5 (by omega)) (fun c_5 => ?_)
  refine lv_iload_n hx hb dX6_areRight_8 rfl (lv_at hl 2 rfl) ?_
  have hRc : va_P D vwCl [] H := z_nilP
  refine z_ro (ws := [(h0, .inr (5, [.ref ae, .ref al, .ref ap, .ref az, .ref ar, .int (zI np), .ref am, .int (zI th)]))]) (va_runS (As := [.int (zI a)]) (rest := []) CF (c_X6_isRow l D a (by omega) H.size) (va_cwS 1 hts gX6_areRight_X6_isRow rfl rfl rfl (by decide +kernel) ⟨Nat.le_of_ble_eq_true rfl, Nat.le_of_ble_eq_true rfl⟩) (z_preS z_nilP (z_nilD (A := A)) hRc z_noX (hK.sub (tys' := []) [] rfl)) rfl rfl hl.1 rfl (lv_room (Nat.le_of_ble_eq_true rfl)) dX6_areRight_9 ⟨Nat.le_of_ble_eq_true rfl, Nat.le_of_ble_eq_true rfl⟩) hP hS hA (cells' := 0) (slots' := 0) rfl rfl (fun H locs hP hS => ?_)
  have hR := hR0.at hS
  refine z_ifB_eq (tgt := 31) hx hb dX6_areRight_12 (by decide) (fun c_12 => absurd c_12 (by omega)) (fun c_12 => ?_)
  refine lv_iload_n hx hb dX6_areRight_15 rfl (lv_at hl 3 rfl) ?_
  have hRc : va_P D vwCl [] H := z_nilP
  refine z_ro (ws := [(h0, .inr (5, [.ref ae, .ref al, .ref ap, .ref az, .ref ar, .int (zI np), .ref am, .int (zI th)]))]) (va_runS (As := [.int (zI b)]) (rest := []) CF (c_X6_isRow l D b (by omega) H.size) (va_cwS 1 hts gX6_areRight_X6_isRow rfl rfl rfl (by decide +kernel) ⟨Nat.le_of_ble_eq_true rfl, Nat.le_of_ble_eq_true rfl⟩) (z_preS z_nilP (z_nilD (A := A)) hRc z_noX (hK.sub (tys' := []) [] rfl)) rfl rfl hl.1 rfl (lv_room (Nat.le_of_ble_eq_true rfl)) dX6_areRight_16 ⟨Nat.le_of_ble_eq_true rfl, Nat.le_of_ble_eq_true rfl⟩) hP hS hA (cells' := 0) (slots' := 0) rfl rfl (fun H locs hP hS => ?_)
  have hR := hR0.at hS
  refine z_ifB_eq (tgt := 31) hx hb dX6_areRight_19 (by decide) (fun c_19 => absurd c_19 (by omega)) (fun c_19 => ?_)
  refine lv_iload hx hb dX6_areRight_22 (lv_at hl 4 rfl) ?_
  refine z_if_lt (tgt := 31) hx hb dX6_areRight_24 (by decide) (by omega) (fun c_24 => absurd c_24 (by omega)) (fun c_24 => ?_)
  refine z_iconst hx hb dX6_areRight_27 ?_
  refine lv_goto (tgt := 32) hx hb dX6_areRight_28 (by decide) ?_
  refine lv_istore (lv' := [(5, .int (zI 1)), (0, .ref h0), (1, .int (zI i)), (2, .int (zI a)), (3, .int (zI b)), (4, .int (zI mo))]) hx hb dX6_areRight_32 hl (by decide) rfl (fun ls hl => ?_)
  have hl := lv_sub hl [1, 2, 3, 4, 5, 0] rfl
  have hl : lv_has ls 6 [(0, .ref h0), (1, .int (zI i)), (2, .int (zI a)), (3, .int (zI b)), (4, .int (zI mo)), (5, .int (zI 1))] := hl
  refine lv_aload_n hx hb dX6_areRight_34 rfl (lv_at hl 0 rfl) ?_
  refine lv_iload hx hb dX6_areRight_35 (lv_at hl 5 rfl) ?_
  refine z_if_ne (tgt := 44) hx hb dX6_areRight_37 (by decide) (by omega) (fun c_37 => ?_) (fun c_37 => absurd c_37 (by omega))
  refine lv_aload_n hx hb dX6_areRight_44 rfl (lv_at hl 0 rfl) ?_
  refine va_get (D := D) (ci := 5) (C := RX6) (T := TX6) (N := 8) hx hb hts hi6 hown hK hP 0 rfl rfl 1 (by decide) (hts (.fieldLink RX6 13 "ButterflyYardModel" "lengths" "[I") (by decide +kernel)) (fun _ h9 => h9) rfl dX6_areRight_45 ?_
  refine lv_iload_n hx hb dX6_areRight_48 rfl (lv_at hl 2 rfl) ?_
  refine z_iald (cA := cI) (n := 4) (g := xl) hx hb hK hR 0 0 rfl rfl rfl (by omega) dX6_areRight_49 ?_
  refine lv_aload_n hx hb dX6_areRight_50 rfl (lv_at hl 0 rfl) ?_
  refine va_get (D := D) (ci := 5) (C := RX6) (T := TX6) (N := 8) hx hb hts hi6 hown hK hP 0 rfl rfl 3 (by decide) (hts (.fieldLink RX6 19 "ButterflyYardModel" "sizes" "[I") (by decide +kernel)) (fun _ h9 => h9) rfl dX6_areRight_51 ?_
  refine lv_iload_n hx hb dX6_areRight_54 rfl (lv_at hl 1 rfl) ?_
  refine z_iald (cA := cI) (n := 8) (g := xz) hx hb hK hR 1 0 rfl rfl rfl (by omega) dX6_areRight_55 ?_
  refine z_icmp_gt (tgt := 74) hx hb dX6_areRight_56 (by decide) (by omega) (fun c_56 => absurd c_56 (by omega)) (fun c_56 => ?_)
  refine lv_aload_n hx hb dX6_areRight_59 rfl (lv_at hl 0 rfl) ?_
  refine va_get (D := D) (ci := 5) (C := RX6) (T := TX6) (N := 8) hx hb hts hi6 hown hK hP 0 rfl rfl 1 (by decide) (hts (.fieldLink RX6 13 "ButterflyYardModel" "lengths" "[I") (by decide +kernel)) (fun _ h9 => h9) rfl dX6_areRight_60 ?_
  refine lv_iload_n hx hb dX6_areRight_63 rfl (lv_at hl 3 rfl) ?_
  refine z_iald (cA := cI) (n := 4) (g := xl) hx hb hK hR 0 0 rfl rfl rfl (by omega) dX6_areRight_64 ?_
  refine lv_aload_n hx hb dX6_areRight_65 rfl (lv_at hl 0 rfl) ?_
  refine va_get (D := D) (ci := 5) (C := RX6) (T := TX6) (N := 8) hx hb hts hi6 hown hK hP 0 rfl rfl 3 (by decide) (hts (.fieldLink RX6 19 "ButterflyYardModel" "sizes" "[I") (by decide +kernel)) (fun _ h9 => h9) rfl dX6_areRight_66 ?_
  refine lv_iload_n hx hb dX6_areRight_69 rfl (lv_at hl 1 rfl) ?_
  refine z_iald (cA := cI) (n := 8) (g := xz) hx hb hK hR 1 0 rfl rfl rfl (by omega) dX6_areRight_70 ?_
  refine z_icmp_le (tgt := 78) hx hb dX6_areRight_71 (by decide) (by omega) (fun c_71 => ?_) (fun c_71 => absurd c_71 (by omega))
  refine z_iconst hx hb dX6_areRight_78 ?_
  refine va_put (D := D) (ci := 5) (v := .int (zI 0)) (ty := .int) (C := RX6) (T := TX6) (N := 8) hx hb hts hi6 tyX6 tyX6_ok nmX6 hown hK hP hD hS 0 rfl rfl 7 (by decide) (hts (.fieldLink RX6 28 "ButterflyYardModel" "thrown" "I") (by decide +kernel)) (fun _ h9 => h9) rfl (by decide +kernel) rfl rfl (Nat.le_of_ble_eq_true rfl) dX6_areRight_79 (fun H locs hP hD hS => ?_)
  have hP : va_P D vwCl [(h0, .inr (5, [.ref ae, .ref al, .ref ap, .ref az, .ref ar, .int (zI np), .ref am, .int (zI 0)]))] H := hP
  have hD : va_D A [(h0, .inr (5, [.ref ae, .ref al, .ref ap, .ref az, .ref ar, .int (zI np), .ref am, .int (zI 0)]))] := hD
  have hR := hR0.at hS
  refine lv_aload_n hx hb dX6_areRight_82 rfl (lv_at hl 0 rfl) ?_
  refine va_get (D := D) (ci := 5) (C := RX6) (T := TX6) (N := 8) hx hb hts hi6 hown hK hP 0 rfl rfl 7 (by decide) (hts (.fieldLink RX6 28 "ButterflyYardModel" "thrown" "I") (by decide +kernel)) (fun _ h9 => h9) rfl dX6_areRight_83 ?_
  refine z_if_ne (tgt := 93) hx hb dX6_areRight_86 (by decide) (by omega) (fun c_86 => absurd c_86 (by omega)) (fun c_86 => ?_)
  refine z_iconst hx hb dX6_areRight_89 ?_
  refine lv_goto (tgt := 94) hx hb dX6_areRight_90 (by decide) ?_
  exact z_iret hx hb hr hlocks (rfl) () (rfl) (trivial) hP hD hS dX6_areRight_94

set_option maxHeartbeats 4000000 in
set_option maxRecDepth 100000 in
theorem c_X6_convolve_1a (l : Launch) (D : va_G) (cI : ClassId) (h0 : Nat) (ae : Nat) (al : Nat) (ap : Nat) (az : Nat) (ar : Nat) (am : Nat) (np : Int) (th : Int) (i : Int) (a : Int) (b : Int) (t : Int) (ha_i : -2147483648 ≤ i ∧ i ≤ 2147483647) (ha_a : -2147483648 ≤ a ∧ a ≤ 2147483647) (ha_b : -2147483648 ≤ b ∧ b ≤ 2147483647) (ha_t : -2147483648 ≤ t ∧ t ≤ 2147483647) (hnp_ : 0 ≤ np ∧ np ≤ 8) (hi0 : ¬ (0 ≤ i ∧ i < np)) : zC l yX6_convolve wsX6_convolve ({ frames := 2, cells := 0, slots := 0, locals := 46 } : Room) D [(cI, .int)] [(h0, .inr (5, [.ref ae, .ref al, .ref ap, .ref az, .ref ar, .int (zI np), .ref am, .int (zI th)]))] [] [.ref h0, .int (zI i), .int (zI a), .int (zI b), .int (zI t)] (S := Unit) (fun u => True) (fun u => some (.int (zI 0))) (fun u => [(h0, .inr (5, [.ref ae, .ref al, .ref ap, .ref az, .ref ar, .int (zI np), .ref am, .int (zI 1)]))]) := by
  refine z_start (cc := cX6_convolve) (maxL := 6) (ret := (some .int)) (own := RX6) (by decide) rfl rfl (Nat.le_of_ble_eq_true rfl) [(0, .ref h0), (1, .int (zI i)), (2, .int (zI a)), (3, .int (zI b)), (4, .int (zI t))] rfl ?_
  intro pp ee s mm below meth cc A H ls hx hb hr hml hts hown hlocks hin hK hA hP hD hS hR0 hR hl
  have CF : CallFix pp mm cc cX6_convolve 6 s ([.ref h0, .int (zI i), .int (zI a), .int (zI b), .int (zI t)] : List Value).toArray wsX6_convolve RX6 := ⟨hx, hb, hml, hown, hts⟩
  refine lv_aload_n hx hb dX6_convolve_0 rfl (lv_at hl 0 rfl) ?_
  refine lv_iload_n hx hb dX6_convolve_1 rfl (lv_at hl 1 rfl) ?_
  refine lv_iload_n hx hb dX6_convolve_2 rfl (lv_at hl 2 rfl) ?_
  refine lv_iload_n hx hb dX6_convolve_3 rfl (lv_at hl 3 rfl) ?_
  refine lv_iload hx hb dX6_convolve_4 (lv_at hl 4 rfl) ?_
  have hRc : va_P D vwCl [] H := z_nilP
  refine z_ro (ws := [(h0, .inr (5, [.ref ae, .ref al, .ref ap, .ref az, .ref ar, .int (zI np), .ref am, .int (zI th)]))]) (va_runS (As := [.int (zI t)]) (rest := [.int (zI b), .int (zI a), .int (zI i), .ref h0]) CF (c_X6_isRow l D t (by omega) H.size) (va_cwS 1 hts gX6_convolve_X6_isRow rfl rfl rfl (by decide +kernel) ⟨Nat.le_of_ble_eq_true rfl, Nat.le_of_ble_eq_true rfl⟩) (z_preS z_nilP (z_nilD (A := A)) hRc z_noX (hK.sub (tys' := []) [] rfl)) rfl rfl hl.1 rfl (lv_room (Nat.le_of_ble_eq_true rfl)) dX6_convolve_6 ⟨Nat.le_of_ble_eq_true rfl, Nat.le_of_ble_eq_true rfl⟩) hP hS hA (cells' := 0) (slots' := 0) rfl rfl (fun H locs hP hS => ?_)
  refine z_ifB_eq (tgt := 16) hx hb dX6_convolve_9 (by decide) (fun c_9 => ?_) (fun c_9 => ?_)
  · refine z_iconst hx hb dX6_convolve_16 ?_
    have hRc : va_P D vwCl [] H := z_nilP
    have hPc := hP.sub (ws' := [(h0, .inr (5, [.ref ae, .ref al, .ref ap, .ref az, .ref ar, .int (zI np), .ref am, .int (zI th)]))]) [0] rfl
    have hDc := hD.sub (ws' := [(h0, .inr (5, [.ref ae, .ref al, .ref ap, .ref az, .ref ar, .int (zI np), .ref am, .int (zI th)]))]) [0] (by decide) rfl
    refine z_mu (ws := [(h0, .inr (5, [.ref ae, .ref al, .ref ap, .ref az, .ref ar, .int (zI np), .ref am, .int (zI th)]))]) (wc := [(h0, .inr (5, [.ref ae, .ref al, .ref ap, .ref az, .ref ar, .int (zI np), .ref am, .int (zI th)]))]) (wr := []) (va_runV (As := [.int (zI i), .int (zI a), .int (zI b), .int (zI (-1))]) (rest := []) CF (c_X6_areRight_1a l D cI h0 ae al ap az ar am np th i a b (-1) (by omega) (by omega) (by omega) (by omega) (by omega) (by omega) H.size) (cwV 4 hts gX6_convolve_X6_areRight rfl rfl rfl (by decide +kernel) ⟨Nat.le_of_ble_eq_true rfl, Nat.le_of_ble_eq_true rfl⟩) (z_preV (va_recv hK hP (ci := 5) (q0 := 0) rfl rfl) hPc hDc hRc (z_dis (ws := [(h0, .inr (5, [.ref ae, .ref al, .ref ap, .ref az, .ref ar, .int (zI np), .ref am, .int (zI th)]))]) (rs := []) (wc := [(h0, .inr (5, [.ref ae, .ref al, .ref ap, .ref az, .ref ar, .int (zI np), .ref am, .int (zI th)]))]) (rc := []) hD hR0 (isC := [0]) (isR := []) rfl rfl (by decide)) (hK.sub (tys' := [(cI, .int)]) [0] rfl)) rfl rfl hl.1 rfl (lv_room (Nat.le_of_ble_eq_true rfl)) dX6_convolve_17 ⟨Nat.le_of_ble_eq_true rfl, Nat.le_of_ble_eq_true rfl⟩) hP hD hS hA [0] [] rfl rfl (by decide) (by decide) (cells' := 0) (slots' := 0) rfl rfl (fun u_17 H locs hp_17 hP hD hS => ?_)
    have hp_17 : True := hp_17
    have hP := hP.sub (ws' := [(h0, .inr (5, [.ref ae, .ref al, .ref ap, .ref az, .ref ar, .int (zI np), .ref am, .int (zI 1)]))]) [0] rfl
    have hD := hD.sub (ws' := [(h0, .inr (5, [.ref ae, .ref al, .ref ap, .ref az, .ref ar, .int (zI np), .ref am, .int (zI 1)]))]) [0] (by decide) rfl
    refine z_if_ne (tgt := 25) hx hb dX6_convolve_20 (by decide) (by omega) (fun c_20 => absurd c_20 (by omega)) (fun c_20 => ?_)
    refine z_iconst hx hb dX6_convolve_23 ?_
    exact z_iret hx hb hr hlocks rfl () (rfl) (trivial) hP hD hS dX6_convolve_24
  · refine z_iconst hx hb dX6_convolve_12 ?_
    refine lv_goto (tgt := 17) hx hb dX6_convolve_13 (by decide) ?_
    have hRc : va_P D vwCl [] H := z_nilP
    have hPc := hP.sub (ws' := [(h0, .inr (5, [.ref ae, .ref al, .ref ap, .ref az, .ref ar, .int (zI np), .ref am, .int (zI th)]))]) [0] rfl
    have hDc := hD.sub (ws' := [(h0, .inr (5, [.ref ae, .ref al, .ref ap, .ref az, .ref ar, .int (zI np), .ref am, .int (zI th)]))]) [0] (by decide) rfl
    refine z_mu (ws := [(h0, .inr (5, [.ref ae, .ref al, .ref ap, .ref az, .ref ar, .int (zI np), .ref am, .int (zI th)]))]) (wc := [(h0, .inr (5, [.ref ae, .ref al, .ref ap, .ref az, .ref ar, .int (zI np), .ref am, .int (zI th)]))]) (wr := []) (va_runV (As := [.int (zI i), .int (zI a), .int (zI b), .int (zI 0)]) (rest := []) CF (c_X6_areRight_1a l D cI h0 ae al ap az ar am np th i a b 0 (by omega) (by omega) (by omega) (by omega) (by omega) (by omega) H.size) (cwV 4 hts gX6_convolve_X6_areRight rfl rfl rfl (by decide +kernel) ⟨Nat.le_of_ble_eq_true rfl, Nat.le_of_ble_eq_true rfl⟩) (z_preV (va_recv hK hP (ci := 5) (q0 := 0) rfl rfl) hPc hDc hRc (z_dis (ws := [(h0, .inr (5, [.ref ae, .ref al, .ref ap, .ref az, .ref ar, .int (zI np), .ref am, .int (zI th)]))]) (rs := []) (wc := [(h0, .inr (5, [.ref ae, .ref al, .ref ap, .ref az, .ref ar, .int (zI np), .ref am, .int (zI th)]))]) (rc := []) hD hR0 (isC := [0]) (isR := []) rfl rfl (by decide)) (hK.sub (tys' := [(cI, .int)]) [0] rfl)) rfl rfl hl.1 rfl (lv_room (Nat.le_of_ble_eq_true rfl)) dX6_convolve_17 ⟨Nat.le_of_ble_eq_true rfl, Nat.le_of_ble_eq_true rfl⟩) hP hD hS hA [0] [] rfl rfl (by decide) (by decide) (cells' := 0) (slots' := 0) rfl rfl (fun u_17 H locs hp_17 hP hD hS => ?_)
    have hp_17 : True := hp_17
    have hP := hP.sub (ws' := [(h0, .inr (5, [.ref ae, .ref al, .ref ap, .ref az, .ref ar, .int (zI np), .ref am, .int (zI 1)]))]) [0] rfl
    have hD := hD.sub (ws' := [(h0, .inr (5, [.ref ae, .ref al, .ref ap, .ref az, .ref ar, .int (zI np), .ref am, .int (zI 1)]))]) [0] (by decide) rfl
    refine z_if_ne (tgt := 25) hx hb dX6_convolve_20 (by decide) (by omega) (fun c_20 => absurd c_20 (by omega)) (fun c_20 => ?_)
    refine z_iconst hx hb dX6_convolve_23 ?_
    exact z_iret hx hb hr hlocks rfl () (rfl) (trivial) hP hD hS dX6_convolve_24

set_option maxHeartbeats 4000000 in
set_option maxRecDepth 100000 in
theorem c_X6_convolve_1b (l : Launch) (D : va_G) (cI : ClassId) (h0 : Nat) (ae : Nat) (al : Nat) (ap : Nat) (az : Nat) (ar : Nat) (am : Nat) (np : Int) (th : Int) (i : Int) (a : Int) (b : Int) (t : Int) (ha_i : -2147483648 ≤ i ∧ i ≤ 2147483647) (ha_a : -2147483648 ≤ a ∧ a ≤ 2147483647) (ha_b : -2147483648 ≤ b ∧ b ≤ 2147483647) (ha_t : -2147483648 ≤ t ∧ t ≤ 2147483647) (hnp_ : 0 ≤ np ∧ np ≤ 8) (hi0 : 0 ≤ i ∧ i < np) (hb_a : ¬ (0 ≤ a ∧ a < 4)) : zC l yX6_convolve wsX6_convolve ({ frames := 2, cells := 0, slots := 0, locals := 46 } : Room) D [(cI, .int)] [(h0, .inr (5, [.ref ae, .ref al, .ref ap, .ref az, .ref ar, .int (zI np), .ref am, .int (zI th)]))] [] [.ref h0, .int (zI i), .int (zI a), .int (zI b), .int (zI t)] (S := Unit) (fun u => True) (fun u => some (.int (zI 0))) (fun u => [(h0, .inr (5, [.ref ae, .ref al, .ref ap, .ref az, .ref ar, .int (zI np), .ref am, .int (zI 1)]))]) := by
  refine z_start (cc := cX6_convolve) (maxL := 6) (ret := (some .int)) (own := RX6) (by decide) rfl rfl (Nat.le_of_ble_eq_true rfl) [(0, .ref h0), (1, .int (zI i)), (2, .int (zI a)), (3, .int (zI b)), (4, .int (zI t))] rfl ?_
  intro pp ee s mm below meth cc A H ls hx hb hr hml hts hown hlocks hin hK hA hP hD hS hR0 hR hl
  have CF : CallFix pp mm cc cX6_convolve 6 s ([.ref h0, .int (zI i), .int (zI a), .int (zI b), .int (zI t)] : List Value).toArray wsX6_convolve RX6 := ⟨hx, hb, hml, hown, hts⟩
  refine lv_aload_n hx hb dX6_convolve_0 rfl (lv_at hl 0 rfl) ?_
  refine lv_iload_n hx hb dX6_convolve_1 rfl (lv_at hl 1 rfl) ?_
  refine lv_iload_n hx hb dX6_convolve_2 rfl (lv_at hl 2 rfl) ?_
  refine lv_iload_n hx hb dX6_convolve_3 rfl (lv_at hl 3 rfl) ?_
  refine lv_iload hx hb dX6_convolve_4 (lv_at hl 4 rfl) ?_
  have hRc : va_P D vwCl [] H := z_nilP
  refine z_ro (ws := [(h0, .inr (5, [.ref ae, .ref al, .ref ap, .ref az, .ref ar, .int (zI np), .ref am, .int (zI th)]))]) (va_runS (As := [.int (zI t)]) (rest := [.int (zI b), .int (zI a), .int (zI i), .ref h0]) CF (c_X6_isRow l D t (by omega) H.size) (va_cwS 1 hts gX6_convolve_X6_isRow rfl rfl rfl (by decide +kernel) ⟨Nat.le_of_ble_eq_true rfl, Nat.le_of_ble_eq_true rfl⟩) (z_preS z_nilP (z_nilD (A := A)) hRc z_noX (hK.sub (tys' := []) [] rfl)) rfl rfl hl.1 rfl (lv_room (Nat.le_of_ble_eq_true rfl)) dX6_convolve_6 ⟨Nat.le_of_ble_eq_true rfl, Nat.le_of_ble_eq_true rfl⟩) hP hS hA (cells' := 0) (slots' := 0) rfl rfl (fun H locs hP hS => ?_)
  refine z_ifB_eq (tgt := 16) hx hb dX6_convolve_9 (by decide) (fun c_9 => ?_) (fun c_9 => ?_)
  · refine z_iconst hx hb dX6_convolve_16 ?_
    have hRc : va_P D vwCl [] H := z_nilP
    have hPc := hP.sub (ws' := [(h0, .inr (5, [.ref ae, .ref al, .ref ap, .ref az, .ref ar, .int (zI np), .ref am, .int (zI th)]))]) [0] rfl
    have hDc := hD.sub (ws' := [(h0, .inr (5, [.ref ae, .ref al, .ref ap, .ref az, .ref ar, .int (zI np), .ref am, .int (zI th)]))]) [0] (by decide) rfl
    refine z_mu (ws := [(h0, .inr (5, [.ref ae, .ref al, .ref ap, .ref az, .ref ar, .int (zI np), .ref am, .int (zI th)]))]) (wc := [(h0, .inr (5, [.ref ae, .ref al, .ref ap, .ref az, .ref ar, .int (zI np), .ref am, .int (zI th)]))]) (wr := []) (va_runV (As := [.int (zI i), .int (zI a), .int (zI b), .int (zI (-1))]) (rest := []) CF (c_X6_areRight_1b l D cI h0 ae al ap az ar am np th i a b (-1) (by omega) (by omega) (by omega) (by omega) (by omega) (by omega) (by omega) H.size) (cwV 4 hts gX6_convolve_X6_areRight rfl rfl rfl (by decide +kernel) ⟨Nat.le_of_ble_eq_true rfl, Nat.le_of_ble_eq_true rfl⟩) (z_preV (va_recv hK hP (ci := 5) (q0 := 0) rfl rfl) hPc hDc hRc (z_dis (ws := [(h0, .inr (5, [.ref ae, .ref al, .ref ap, .ref az, .ref ar, .int (zI np), .ref am, .int (zI th)]))]) (rs := []) (wc := [(h0, .inr (5, [.ref ae, .ref al, .ref ap, .ref az, .ref ar, .int (zI np), .ref am, .int (zI th)]))]) (rc := []) hD hR0 (isC := [0]) (isR := []) rfl rfl (by decide)) (hK.sub (tys' := [(cI, .int)]) [0] rfl)) rfl rfl hl.1 rfl (lv_room (Nat.le_of_ble_eq_true rfl)) dX6_convolve_17 ⟨Nat.le_of_ble_eq_true rfl, Nat.le_of_ble_eq_true rfl⟩) hP hD hS hA [0] [] rfl rfl (by decide) (by decide) (cells' := 0) (slots' := 0) rfl rfl (fun u_17 H locs hp_17 hP hD hS => ?_)
    have hp_17 : True := hp_17
    have hP := hP.sub (ws' := [(h0, .inr (5, [.ref ae, .ref al, .ref ap, .ref az, .ref ar, .int (zI np), .ref am, .int (zI 1)]))]) [0] rfl
    have hD := hD.sub (ws' := [(h0, .inr (5, [.ref ae, .ref al, .ref ap, .ref az, .ref ar, .int (zI np), .ref am, .int (zI 1)]))]) [0] (by decide) rfl
    refine z_if_ne (tgt := 25) hx hb dX6_convolve_20 (by decide) (by omega) (fun c_20 => absurd c_20 (by omega)) (fun c_20 => ?_)
    refine z_iconst hx hb dX6_convolve_23 ?_
    exact z_iret hx hb hr hlocks rfl () (rfl) (trivial) hP hD hS dX6_convolve_24
  · refine z_iconst hx hb dX6_convolve_12 ?_
    refine lv_goto (tgt := 17) hx hb dX6_convolve_13 (by decide) ?_
    have hRc : va_P D vwCl [] H := z_nilP
    have hPc := hP.sub (ws' := [(h0, .inr (5, [.ref ae, .ref al, .ref ap, .ref az, .ref ar, .int (zI np), .ref am, .int (zI th)]))]) [0] rfl
    have hDc := hD.sub (ws' := [(h0, .inr (5, [.ref ae, .ref al, .ref ap, .ref az, .ref ar, .int (zI np), .ref am, .int (zI th)]))]) [0] (by decide) rfl
    refine z_mu (ws := [(h0, .inr (5, [.ref ae, .ref al, .ref ap, .ref az, .ref ar, .int (zI np), .ref am, .int (zI th)]))]) (wc := [(h0, .inr (5, [.ref ae, .ref al, .ref ap, .ref az, .ref ar, .int (zI np), .ref am, .int (zI th)]))]) (wr := []) (va_runV (As := [.int (zI i), .int (zI a), .int (zI b), .int (zI 0)]) (rest := []) CF (c_X6_areRight_1b l D cI h0 ae al ap az ar am np th i a b 0 (by omega) (by omega) (by omega) (by omega) (by omega) (by omega) (by omega) H.size) (cwV 4 hts gX6_convolve_X6_areRight rfl rfl rfl (by decide +kernel) ⟨Nat.le_of_ble_eq_true rfl, Nat.le_of_ble_eq_true rfl⟩) (z_preV (va_recv hK hP (ci := 5) (q0 := 0) rfl rfl) hPc hDc hRc (z_dis (ws := [(h0, .inr (5, [.ref ae, .ref al, .ref ap, .ref az, .ref ar, .int (zI np), .ref am, .int (zI th)]))]) (rs := []) (wc := [(h0, .inr (5, [.ref ae, .ref al, .ref ap, .ref az, .ref ar, .int (zI np), .ref am, .int (zI th)]))]) (rc := []) hD hR0 (isC := [0]) (isR := []) rfl rfl (by decide)) (hK.sub (tys' := [(cI, .int)]) [0] rfl)) rfl rfl hl.1 rfl (lv_room (Nat.le_of_ble_eq_true rfl)) dX6_convolve_17 ⟨Nat.le_of_ble_eq_true rfl, Nat.le_of_ble_eq_true rfl⟩) hP hD hS hA [0] [] rfl rfl (by decide) (by decide) (cells' := 0) (slots' := 0) rfl rfl (fun u_17 H locs hp_17 hP hD hS => ?_)
    have hp_17 : True := hp_17
    have hP := hP.sub (ws' := [(h0, .inr (5, [.ref ae, .ref al, .ref ap, .ref az, .ref ar, .int (zI np), .ref am, .int (zI 1)]))]) [0] rfl
    have hD := hD.sub (ws' := [(h0, .inr (5, [.ref ae, .ref al, .ref ap, .ref az, .ref ar, .int (zI np), .ref am, .int (zI 1)]))]) [0] (by decide) rfl
    refine z_if_ne (tgt := 25) hx hb dX6_convolve_20 (by decide) (by omega) (fun c_20 => absurd c_20 (by omega)) (fun c_20 => ?_)
    refine z_iconst hx hb dX6_convolve_23 ?_
    exact z_iret hx hb hr hlocks rfl () (rfl) (trivial) hP hD hS dX6_convolve_24

set_option maxHeartbeats 4000000 in
set_option maxRecDepth 100000 in
theorem c_X6_convolve_1c (l : Launch) (D : va_G) (cI : ClassId) (h0 : Nat) (ae : Nat) (al : Nat) (ap : Nat) (az : Nat) (ar : Nat) (am : Nat) (np : Int) (th : Int) (i : Int) (a : Int) (b : Int) (t : Int) (ha_i : -2147483648 ≤ i ∧ i ≤ 2147483647) (ha_a : -2147483648 ≤ a ∧ a ≤ 2147483647) (ha_b : -2147483648 ≤ b ∧ b ≤ 2147483647) (ha_t : -2147483648 ≤ t ∧ t ≤ 2147483647) (hnp_ : 0 ≤ np ∧ np ≤ 8) (hi0 : 0 ≤ i ∧ i < np) (hr_a : 0 ≤ a ∧ a < 4) (hb_b : ¬ (0 ≤ b ∧ b < 4)) : zC l yX6_convolve wsX6_convolve ({ frames := 2, cells := 0, slots := 0, locals := 46 } : Room) D [(cI, .int)] [(h0, .inr (5, [.ref ae, .ref al, .ref ap, .ref az, .ref ar, .int (zI np), .ref am, .int (zI th)]))] [] [.ref h0, .int (zI i), .int (zI a), .int (zI b), .int (zI t)] (S := Unit) (fun u => True) (fun u => some (.int (zI 0))) (fun u => [(h0, .inr (5, [.ref ae, .ref al, .ref ap, .ref az, .ref ar, .int (zI np), .ref am, .int (zI 1)]))]) := by
  refine z_start (cc := cX6_convolve) (maxL := 6) (ret := (some .int)) (own := RX6) (by decide) rfl rfl (Nat.le_of_ble_eq_true rfl) [(0, .ref h0), (1, .int (zI i)), (2, .int (zI a)), (3, .int (zI b)), (4, .int (zI t))] rfl ?_
  intro pp ee s mm below meth cc A H ls hx hb hr hml hts hown hlocks hin hK hA hP hD hS hR0 hR hl
  have CF : CallFix pp mm cc cX6_convolve 6 s ([.ref h0, .int (zI i), .int (zI a), .int (zI b), .int (zI t)] : List Value).toArray wsX6_convolve RX6 := ⟨hx, hb, hml, hown, hts⟩
  refine lv_aload_n hx hb dX6_convolve_0 rfl (lv_at hl 0 rfl) ?_
  refine lv_iload_n hx hb dX6_convolve_1 rfl (lv_at hl 1 rfl) ?_
  refine lv_iload_n hx hb dX6_convolve_2 rfl (lv_at hl 2 rfl) ?_
  refine lv_iload_n hx hb dX6_convolve_3 rfl (lv_at hl 3 rfl) ?_
  refine lv_iload hx hb dX6_convolve_4 (lv_at hl 4 rfl) ?_
  have hRc : va_P D vwCl [] H := z_nilP
  refine z_ro (ws := [(h0, .inr (5, [.ref ae, .ref al, .ref ap, .ref az, .ref ar, .int (zI np), .ref am, .int (zI th)]))]) (va_runS (As := [.int (zI t)]) (rest := [.int (zI b), .int (zI a), .int (zI i), .ref h0]) CF (c_X6_isRow l D t (by omega) H.size) (va_cwS 1 hts gX6_convolve_X6_isRow rfl rfl rfl (by decide +kernel) ⟨Nat.le_of_ble_eq_true rfl, Nat.le_of_ble_eq_true rfl⟩) (z_preS z_nilP (z_nilD (A := A)) hRc z_noX (hK.sub (tys' := []) [] rfl)) rfl rfl hl.1 rfl (lv_room (Nat.le_of_ble_eq_true rfl)) dX6_convolve_6 ⟨Nat.le_of_ble_eq_true rfl, Nat.le_of_ble_eq_true rfl⟩) hP hS hA (cells' := 0) (slots' := 0) rfl rfl (fun H locs hP hS => ?_)
  refine z_ifB_eq (tgt := 16) hx hb dX6_convolve_9 (by decide) (fun c_9 => ?_) (fun c_9 => ?_)
  · refine z_iconst hx hb dX6_convolve_16 ?_
    have hRc : va_P D vwCl [] H := z_nilP
    have hPc := hP.sub (ws' := [(h0, .inr (5, [.ref ae, .ref al, .ref ap, .ref az, .ref ar, .int (zI np), .ref am, .int (zI th)]))]) [0] rfl
    have hDc := hD.sub (ws' := [(h0, .inr (5, [.ref ae, .ref al, .ref ap, .ref az, .ref ar, .int (zI np), .ref am, .int (zI th)]))]) [0] (by decide) rfl
    refine z_mu (ws := [(h0, .inr (5, [.ref ae, .ref al, .ref ap, .ref az, .ref ar, .int (zI np), .ref am, .int (zI th)]))]) (wc := [(h0, .inr (5, [.ref ae, .ref al, .ref ap, .ref az, .ref ar, .int (zI np), .ref am, .int (zI th)]))]) (wr := []) (va_runV (As := [.int (zI i), .int (zI a), .int (zI b), .int (zI (-1))]) (rest := []) CF (c_X6_areRight_1c l D cI h0 ae al ap az ar am np th i a b (-1) (by omega) (by omega) (by omega) (by omega) (by omega) (by omega) (by omega) (by omega) H.size) (cwV 4 hts gX6_convolve_X6_areRight rfl rfl rfl (by decide +kernel) ⟨Nat.le_of_ble_eq_true rfl, Nat.le_of_ble_eq_true rfl⟩) (z_preV (va_recv hK hP (ci := 5) (q0 := 0) rfl rfl) hPc hDc hRc (z_dis (ws := [(h0, .inr (5, [.ref ae, .ref al, .ref ap, .ref az, .ref ar, .int (zI np), .ref am, .int (zI th)]))]) (rs := []) (wc := [(h0, .inr (5, [.ref ae, .ref al, .ref ap, .ref az, .ref ar, .int (zI np), .ref am, .int (zI th)]))]) (rc := []) hD hR0 (isC := [0]) (isR := []) rfl rfl (by decide)) (hK.sub (tys' := [(cI, .int)]) [0] rfl)) rfl rfl hl.1 rfl (lv_room (Nat.le_of_ble_eq_true rfl)) dX6_convolve_17 ⟨Nat.le_of_ble_eq_true rfl, Nat.le_of_ble_eq_true rfl⟩) hP hD hS hA [0] [] rfl rfl (by decide) (by decide) (cells' := 0) (slots' := 0) rfl rfl (fun u_17 H locs hp_17 hP hD hS => ?_)
    have hp_17 : True := hp_17
    have hP := hP.sub (ws' := [(h0, .inr (5, [.ref ae, .ref al, .ref ap, .ref az, .ref ar, .int (zI np), .ref am, .int (zI 1)]))]) [0] rfl
    have hD := hD.sub (ws' := [(h0, .inr (5, [.ref ae, .ref al, .ref ap, .ref az, .ref ar, .int (zI np), .ref am, .int (zI 1)]))]) [0] (by decide) rfl
    refine z_if_ne (tgt := 25) hx hb dX6_convolve_20 (by decide) (by omega) (fun c_20 => absurd c_20 (by omega)) (fun c_20 => ?_)
    refine z_iconst hx hb dX6_convolve_23 ?_
    exact z_iret hx hb hr hlocks rfl () (rfl) (trivial) hP hD hS dX6_convolve_24
  · refine z_iconst hx hb dX6_convolve_12 ?_
    refine lv_goto (tgt := 17) hx hb dX6_convolve_13 (by decide) ?_
    have hRc : va_P D vwCl [] H := z_nilP
    have hPc := hP.sub (ws' := [(h0, .inr (5, [.ref ae, .ref al, .ref ap, .ref az, .ref ar, .int (zI np), .ref am, .int (zI th)]))]) [0] rfl
    have hDc := hD.sub (ws' := [(h0, .inr (5, [.ref ae, .ref al, .ref ap, .ref az, .ref ar, .int (zI np), .ref am, .int (zI th)]))]) [0] (by decide) rfl
    refine z_mu (ws := [(h0, .inr (5, [.ref ae, .ref al, .ref ap, .ref az, .ref ar, .int (zI np), .ref am, .int (zI th)]))]) (wc := [(h0, .inr (5, [.ref ae, .ref al, .ref ap, .ref az, .ref ar, .int (zI np), .ref am, .int (zI th)]))]) (wr := []) (va_runV (As := [.int (zI i), .int (zI a), .int (zI b), .int (zI 0)]) (rest := []) CF (c_X6_areRight_1c l D cI h0 ae al ap az ar am np th i a b 0 (by omega) (by omega) (by omega) (by omega) (by omega) (by omega) (by omega) (by omega) H.size) (cwV 4 hts gX6_convolve_X6_areRight rfl rfl rfl (by decide +kernel) ⟨Nat.le_of_ble_eq_true rfl, Nat.le_of_ble_eq_true rfl⟩) (z_preV (va_recv hK hP (ci := 5) (q0 := 0) rfl rfl) hPc hDc hRc (z_dis (ws := [(h0, .inr (5, [.ref ae, .ref al, .ref ap, .ref az, .ref ar, .int (zI np), .ref am, .int (zI th)]))]) (rs := []) (wc := [(h0, .inr (5, [.ref ae, .ref al, .ref ap, .ref az, .ref ar, .int (zI np), .ref am, .int (zI th)]))]) (rc := []) hD hR0 (isC := [0]) (isR := []) rfl rfl (by decide)) (hK.sub (tys' := [(cI, .int)]) [0] rfl)) rfl rfl hl.1 rfl (lv_room (Nat.le_of_ble_eq_true rfl)) dX6_convolve_17 ⟨Nat.le_of_ble_eq_true rfl, Nat.le_of_ble_eq_true rfl⟩) hP hD hS hA [0] [] rfl rfl (by decide) (by decide) (cells' := 0) (slots' := 0) rfl rfl (fun u_17 H locs hp_17 hP hD hS => ?_)
    have hp_17 : True := hp_17
    have hP := hP.sub (ws' := [(h0, .inr (5, [.ref ae, .ref al, .ref ap, .ref az, .ref ar, .int (zI np), .ref am, .int (zI 1)]))]) [0] rfl
    have hD := hD.sub (ws' := [(h0, .inr (5, [.ref ae, .ref al, .ref ap, .ref az, .ref ar, .int (zI np), .ref am, .int (zI 1)]))]) [0] (by decide) rfl
    refine z_if_ne (tgt := 25) hx hb dX6_convolve_20 (by decide) (by omega) (fun c_20 => absurd c_20 (by omega)) (fun c_20 => ?_)
    refine z_iconst hx hb dX6_convolve_23 ?_
    exact z_iret hx hb hr hlocks rfl () (rfl) (trivial) hP hD hS dX6_convolve_24

set_option maxHeartbeats 4000000 in
set_option maxRecDepth 100000 in
theorem c_X6_convolve_1t (l : Launch) (D : va_G) (cI : ClassId) (h0 : Nat) (ae : Nat) (al : Nat) (ap : Nat) (az : Nat) (ar : Nat) (am : Nat) (np : Int) (th : Int) (i : Int) (a : Int) (b : Int) (t : Int) (ha_i : -2147483648 ≤ i ∧ i ≤ 2147483647) (ha_a : -2147483648 ≤ a ∧ a ≤ 2147483647) (ha_b : -2147483648 ≤ b ∧ b ≤ 2147483647) (ha_t : -2147483648 ≤ t ∧ t ≤ 2147483647) (hnp_ : 0 ≤ np ∧ np ≤ 8) (hi0 : 0 ≤ i ∧ i < np) (hr_a : 0 ≤ a ∧ a < 4) (hr_b : 0 ≤ b ∧ b < 4) (hb_t : ¬ (0 ≤ t ∧ t < 4)) : zC l yX6_convolve wsX6_convolve ({ frames := 2, cells := 0, slots := 0, locals := 46 } : Room) D [(cI, .int)] [(h0, .inr (5, [.ref ae, .ref al, .ref ap, .ref az, .ref ar, .int (zI np), .ref am, .int (zI th)]))] [] [.ref h0, .int (zI i), .int (zI a), .int (zI b), .int (zI t)] (S := Unit) (fun u => True) (fun u => some (.int (zI 0))) (fun u => [(h0, .inr (5, [.ref ae, .ref al, .ref ap, .ref az, .ref ar, .int (zI np), .ref am, .int (zI 1)]))]) := by
  refine z_start (cc := cX6_convolve) (maxL := 6) (ret := (some .int)) (own := RX6) (by decide) rfl rfl (Nat.le_of_ble_eq_true rfl) [(0, .ref h0), (1, .int (zI i)), (2, .int (zI a)), (3, .int (zI b)), (4, .int (zI t))] rfl ?_
  intro pp ee s mm below meth cc A H ls hx hb hr hml hts hown hlocks hin hK hA hP hD hS hR0 hR hl
  have CF : CallFix pp mm cc cX6_convolve 6 s ([.ref h0, .int (zI i), .int (zI a), .int (zI b), .int (zI t)] : List Value).toArray wsX6_convolve RX6 := ⟨hx, hb, hml, hown, hts⟩
  refine lv_aload_n hx hb dX6_convolve_0 rfl (lv_at hl 0 rfl) ?_
  refine lv_iload_n hx hb dX6_convolve_1 rfl (lv_at hl 1 rfl) ?_
  refine lv_iload_n hx hb dX6_convolve_2 rfl (lv_at hl 2 rfl) ?_
  refine lv_iload_n hx hb dX6_convolve_3 rfl (lv_at hl 3 rfl) ?_
  refine lv_iload hx hb dX6_convolve_4 (lv_at hl 4 rfl) ?_
  have hRc : va_P D vwCl [] H := z_nilP
  refine z_ro (ws := [(h0, .inr (5, [.ref ae, .ref al, .ref ap, .ref az, .ref ar, .int (zI np), .ref am, .int (zI th)]))]) (va_runS (As := [.int (zI t)]) (rest := [.int (zI b), .int (zI a), .int (zI i), .ref h0]) CF (c_X6_isRow l D t (by omega) H.size) (va_cwS 1 hts gX6_convolve_X6_isRow rfl rfl rfl (by decide +kernel) ⟨Nat.le_of_ble_eq_true rfl, Nat.le_of_ble_eq_true rfl⟩) (z_preS z_nilP (z_nilD (A := A)) hRc z_noX (hK.sub (tys' := []) [] rfl)) rfl rfl hl.1 rfl (lv_room (Nat.le_of_ble_eq_true rfl)) dX6_convolve_6 ⟨Nat.le_of_ble_eq_true rfl, Nat.le_of_ble_eq_true rfl⟩) hP hS hA (cells' := 0) (slots' := 0) rfl rfl (fun H locs hP hS => ?_)
  refine z_ifB_eq (tgt := 16) hx hb dX6_convolve_9 (by decide) (fun c_9 => ?_) (fun c_9 => absurd c_9 (by omega))
  refine z_iconst hx hb dX6_convolve_16 ?_
  have hRc : va_P D vwCl [] H := z_nilP
  have hPc := hP.sub (ws' := [(h0, .inr (5, [.ref ae, .ref al, .ref ap, .ref az, .ref ar, .int (zI np), .ref am, .int (zI th)]))]) [0] rfl
  have hDc := hD.sub (ws' := [(h0, .inr (5, [.ref ae, .ref al, .ref ap, .ref az, .ref ar, .int (zI np), .ref am, .int (zI th)]))]) [0] (by decide) rfl
  refine z_mu (ws := [(h0, .inr (5, [.ref ae, .ref al, .ref ap, .ref az, .ref ar, .int (zI np), .ref am, .int (zI th)]))]) (wc := [(h0, .inr (5, [.ref ae, .ref al, .ref ap, .ref az, .ref ar, .int (zI np), .ref am, .int (zI th)]))]) (wr := []) (va_runV (As := [.int (zI i), .int (zI a), .int (zI b), .int (zI (-1))]) (rest := []) CF (c_X6_areRight_1m l D cI h0 ae al ap az ar am np th i a b (-1) (by omega) (by omega) (by omega) (by omega) (by omega) (by omega) (by omega) (by omega) (by omega) H.size) (cwV 4 hts gX6_convolve_X6_areRight rfl rfl rfl (by decide +kernel) ⟨Nat.le_of_ble_eq_true rfl, Nat.le_of_ble_eq_true rfl⟩) (z_preV (va_recv hK hP (ci := 5) (q0 := 0) rfl rfl) hPc hDc hRc (z_dis (ws := [(h0, .inr (5, [.ref ae, .ref al, .ref ap, .ref az, .ref ar, .int (zI np), .ref am, .int (zI th)]))]) (rs := []) (wc := [(h0, .inr (5, [.ref ae, .ref al, .ref ap, .ref az, .ref ar, .int (zI np), .ref am, .int (zI th)]))]) (rc := []) hD hR0 (isC := [0]) (isR := []) rfl rfl (by decide)) (hK.sub (tys' := [(cI, .int)]) [0] rfl)) rfl rfl hl.1 rfl (lv_room (Nat.le_of_ble_eq_true rfl)) dX6_convolve_17 ⟨Nat.le_of_ble_eq_true rfl, Nat.le_of_ble_eq_true rfl⟩) hP hD hS hA [0] [] rfl rfl (by decide) (by decide) (cells' := 0) (slots' := 0) rfl rfl (fun u_17 H locs hp_17 hP hD hS => ?_)
  have hp_17 : True := hp_17
  have hP := hP.sub (ws' := [(h0, .inr (5, [.ref ae, .ref al, .ref ap, .ref az, .ref ar, .int (zI np), .ref am, .int (zI 1)]))]) [0] rfl
  have hD := hD.sub (ws' := [(h0, .inr (5, [.ref ae, .ref al, .ref ap, .ref az, .ref ar, .int (zI np), .ref am, .int (zI 1)]))]) [0] (by decide) rfl
  refine z_if_ne (tgt := 25) hx hb dX6_convolve_20 (by decide) (by omega) (fun c_20 => absurd c_20 (by omega)) (fun c_20 => ?_)
  refine z_iconst hx hb dX6_convolve_23 ?_
  exact z_iret hx hb hr hlocks rfl () (rfl) (trivial) hP hD hS dX6_convolve_24

set_option maxHeartbeats 4000000 in
set_option maxRecDepth 100000 in
theorem c_X6_convolve_2a (l : Launch) (D : va_G) (cI : ClassId) (h0 : Nat) (ae : Nat) (al : Nat) (ap : Nat) (az : Nat) (ar : Nat) (am : Nat) (np : Int) (th : Int) (xl : Int → Int) (xz : Int → Int) (i : Int) (a : Int) (b : Int) (t : Int) (ha_i : -2147483648 ≤ i ∧ i ≤ 2147483647) (ha_a : -2147483648 ≤ a ∧ a ≤ 2147483647) (ha_b : -2147483648 ≤ b ∧ b ≤ 2147483647) (ha_t : -2147483648 ≤ t ∧ t ≤ 2147483647) (hnp_ : 0 ≤ np ∧ np ≤ 8) (hi0 : 0 ≤ i ∧ i < np) (hz_ : 1 ≤ xz i ∧ xz i ≤ 64) (hr_a : 0 ≤ a ∧ a < 4) (hr_b : 0 ≤ b ∧ b < 4) (hr_t : 0 ≤ t ∧ t < 4) (hxl_a : 0 ≤ xl a ∧ xl a ≤ 64) (hxl_b : 0 ≤ xl b ∧ xl b ≤ 64) (hla : xz i < xl a) : zC l yX6_convolve wsX6_convolve ({ frames := 2, cells := 0, slots := 0, locals := 46 } : Room) D [(cI, .int)] [(h0, .inr (5, [.ref ae, .ref al, .ref ap, .ref az, .ref ar, .int (zI np), .ref am, .int (zI th)]))] [(al, .inl (cI, 4, .inl (zA xl))), (az, .inl (cI, 8, .inl (zA xz)))] [.ref h0, .int (zI i), .int (zI a), .int (zI b), .int (zI t)] (S := Unit) (fun u => True) (fun u => some (.int (zI 0))) (fun u => [(h0, .inr (5, [.ref ae, .ref al, .ref ap, .ref az, .ref ar, .int (zI np), .ref am, .int (zI 2)]))]) := by
  refine z_start (cc := cX6_convolve) (maxL := 6) (ret := (some .int)) (own := RX6) (by decide) rfl rfl (Nat.le_of_ble_eq_true rfl) [(0, .ref h0), (1, .int (zI i)), (2, .int (zI a)), (3, .int (zI b)), (4, .int (zI t))] rfl ?_
  intro pp ee s mm below meth cc A H ls hx hb hr hml hts hown hlocks hin hK hA hP hD hS hR0 hR hl
  have CF : CallFix pp mm cc cX6_convolve 6 s ([.ref h0, .int (zI i), .int (zI a), .int (zI b), .int (zI t)] : List Value).toArray wsX6_convolve RX6 := ⟨hx, hb, hml, hown, hts⟩
  refine lv_aload_n hx hb dX6_convolve_0 rfl (lv_at hl 0 rfl) ?_
  refine lv_iload_n hx hb dX6_convolve_1 rfl (lv_at hl 1 rfl) ?_
  refine lv_iload_n hx hb dX6_convolve_2 rfl (lv_at hl 2 rfl) ?_
  refine lv_iload_n hx hb dX6_convolve_3 rfl (lv_at hl 3 rfl) ?_
  refine lv_iload hx hb dX6_convolve_4 (lv_at hl 4 rfl) ?_
  have hRc : va_P D vwCl [] H := z_nilP
  refine z_ro (ws := [(h0, .inr (5, [.ref ae, .ref al, .ref ap, .ref az, .ref ar, .int (zI np), .ref am, .int (zI th)]))]) (va_runS (As := [.int (zI t)]) (rest := [.int (zI b), .int (zI a), .int (zI i), .ref h0]) CF (c_X6_isRow l D t (by omega) H.size) (va_cwS 1 hts gX6_convolve_X6_isRow rfl rfl rfl (by decide +kernel) ⟨Nat.le_of_ble_eq_true rfl, Nat.le_of_ble_eq_true rfl⟩) (z_preS z_nilP (z_nilD (A := A)) hRc z_noX (hK.sub (tys' := []) [] rfl)) rfl rfl hl.1 rfl (lv_room (Nat.le_of_ble_eq_true rfl)) dX6_convolve_6 ⟨Nat.le_of_ble_eq_true rfl, Nat.le_of_ble_eq_true rfl⟩) hP hS hA (cells' := 0) (slots' := 0) rfl rfl (fun H locs hP hS => ?_)
  have hR := hR0.at hS
  refine z_ifB_eq (tgt := 16) hx hb dX6_convolve_9 (by decide) (fun c_9 => absurd c_9 (by omega)) (fun c_9 => ?_)
  refine z_iconst hx hb dX6_convolve_12 ?_
  refine lv_goto (tgt := 17) hx hb dX6_convolve_13 (by decide) ?_
  have hRc := z_subR (ws := [(h0, .inr (5, [.ref ae, .ref al, .ref ap, .ref az, .ref ar, .int (zI np), .ref am, .int (zI th)]))]) (rs := [(al, .inl (cI, 4, .inl (zA xl))), (az, .inl (cI, 8, .inl (zA xz)))]) (rc := [(al, .inl (cI, 4, .inl (zA xl))), (az, .inl (cI, 8, .inl (zA xz)))]) hP hR (isR := [1, 2]) rfl
  have hPc := hP.sub (ws' := [(h0, .inr (5, [.ref ae, .ref al, .ref ap, .ref az, .ref ar, .int (zI np), .ref am, .int (zI th)]))]) [0] rfl
  have hDc := hD.sub (ws' := [(h0, .inr (5, [.ref ae, .ref al, .ref ap, .ref az, .ref ar, .int (zI np), .ref am, .int (zI th)]))]) [0] (by decide) rfl
  refine z_mu (ws := [(h0, .inr (5, [.ref ae, .ref al, .ref ap, .ref az, .ref ar, .int (zI np), .ref am, .int (zI th)]))]) (wc := [(h0, .inr (5, [.ref ae, .ref al, .ref ap, .ref az, .ref ar, .int (zI np), .ref am, .int (zI th)]))]) (wr := []) (va_runV (As := [.int (zI i), .int (zI a), .int (zI b), .int (zI 0)]) (rest := []) CF (c_X6_areRight_2a l D cI h0 ae al ap az ar am np th xl xz i a b 0 (by omega) (by omega) (by omega) (by omega) (by omega) (by omega) (by omega) (by omega) (by omega) (by omega) (by omega) (by omega) (by omega) H.size) (cwV 4 hts gX6_convolve_X6_areRight rfl rfl rfl (by decide +kernel) ⟨Nat.le_of_ble_eq_true rfl, Nat.le_of_ble_eq_true rfl⟩) (z_preV (va_recv hK hP (ci := 5) (q0 := 0) rfl rfl) hPc hDc hRc (z_dis (ws := [(h0, .inr (5, [.ref ae, .ref al, .ref ap, .ref az, .ref ar, .int (zI np), .ref am, .int (zI th)]))]) (rs := [(al, .inl (cI, 4, .inl (zA xl))), (az, .inl (cI, 8, .inl (zA xz)))]) (wc := [(h0, .inr (5, [.ref ae, .ref al, .ref ap, .ref az, .ref ar, .int (zI np), .ref am, .int (zI th)]))]) (rc := [(al, .inl (cI, 4, .inl (zA xl))), (az, .inl (cI, 8, .inl (zA xz)))]) hD hR0 (isC := [0]) (isR := [1, 2]) rfl rfl (by decide)) (hK.sub (tys' := [(cI, .int)]) [0] rfl)) rfl rfl hl.1 rfl (lv_room (Nat.le_of_ble_eq_true rfl)) dX6_convolve_17 ⟨Nat.le_of_ble_eq_true rfl, Nat.le_of_ble_eq_true rfl⟩) hP hD hS hA [0] [] rfl rfl (by decide) (by decide) (cells' := 0) (slots' := 0) rfl rfl (fun u_17 H locs hp_17 hP hD hS => ?_)
  have hp_17 : True := hp_17
  have hP := hP.sub (ws' := [(h0, .inr (5, [.ref ae, .ref al, .ref ap, .ref az, .ref ar, .int (zI np), .ref am, .int (zI 2)]))]) [0] rfl
  have hD := hD.sub (ws' := [(h0, .inr (5, [.ref ae, .ref al, .ref ap, .ref az, .ref ar, .int (zI np), .ref am, .int (zI 2)]))]) [0] (by decide) rfl
  have hR := hR0.at hS
  refine z_if_ne (tgt := 25) hx hb dX6_convolve_20 (by decide) (by omega) (fun c_20 => absurd c_20 (by omega)) (fun c_20 => ?_)
  refine z_iconst hx hb dX6_convolve_23 ?_
  exact z_iret hx hb hr hlocks rfl () (rfl) (trivial) hP hD hS dX6_convolve_24

set_option maxHeartbeats 4000000 in
set_option maxRecDepth 100000 in
theorem c_X6_convolve_2b (l : Launch) (D : va_G) (cI : ClassId) (h0 : Nat) (ae : Nat) (al : Nat) (ap : Nat) (az : Nat) (ar : Nat) (am : Nat) (np : Int) (th : Int) (xl : Int → Int) (xz : Int → Int) (i : Int) (a : Int) (b : Int) (t : Int) (ha_i : -2147483648 ≤ i ∧ i ≤ 2147483647) (ha_a : -2147483648 ≤ a ∧ a ≤ 2147483647) (ha_b : -2147483648 ≤ b ∧ b ≤ 2147483647) (ha_t : -2147483648 ≤ t ∧ t ≤ 2147483647) (hnp_ : 0 ≤ np ∧ np ≤ 8) (hi0 : 0 ≤ i ∧ i < np) (hz_ : 1 ≤ xz i ∧ xz i ≤ 64) (hr_a : 0 ≤ a ∧ a < 4) (hr_b : 0 ≤ b ∧ b < 4) (hr_t : 0 ≤ t ∧ t < 4) (hxl_a : 0 ≤ xl a ∧ xl a ≤ 64) (hxl_b : 0 ≤ xl b ∧ xl b ≤ 64) (hla : xl a ≤ xz i) (hlb : xz i < xl b) : zC l yX6_convolve wsX6_convolve ({ frames := 2, cells := 0, slots := 0, locals := 46 } : Room) D [(cI, .int)] [(h0, .inr (5, [.ref ae, .ref al, .ref ap, .ref az, .ref ar, .int (zI np), .ref am, .int (zI th)]))] [(al, .inl (cI, 4, .inl (zA xl))), (az, .inl (cI, 8, .inl (zA xz)))] [.ref h0, .int (zI i), .int (zI a), .int (zI b), .int (zI t)] (S := Unit) (fun u => True) (fun u => some (.int (zI 0))) (fun u => [(h0, .inr (5, [.ref ae, .ref al, .ref ap, .ref az, .ref ar, .int (zI np), .ref am, .int (zI 2)]))]) := by
  refine z_start (cc := cX6_convolve) (maxL := 6) (ret := (some .int)) (own := RX6) (by decide) rfl rfl (Nat.le_of_ble_eq_true rfl) [(0, .ref h0), (1, .int (zI i)), (2, .int (zI a)), (3, .int (zI b)), (4, .int (zI t))] rfl ?_
  intro pp ee s mm below meth cc A H ls hx hb hr hml hts hown hlocks hin hK hA hP hD hS hR0 hR hl
  have CF : CallFix pp mm cc cX6_convolve 6 s ([.ref h0, .int (zI i), .int (zI a), .int (zI b), .int (zI t)] : List Value).toArray wsX6_convolve RX6 := ⟨hx, hb, hml, hown, hts⟩
  refine lv_aload_n hx hb dX6_convolve_0 rfl (lv_at hl 0 rfl) ?_
  refine lv_iload_n hx hb dX6_convolve_1 rfl (lv_at hl 1 rfl) ?_
  refine lv_iload_n hx hb dX6_convolve_2 rfl (lv_at hl 2 rfl) ?_
  refine lv_iload_n hx hb dX6_convolve_3 rfl (lv_at hl 3 rfl) ?_
  refine lv_iload hx hb dX6_convolve_4 (lv_at hl 4 rfl) ?_
  have hRc : va_P D vwCl [] H := z_nilP
  refine z_ro (ws := [(h0, .inr (5, [.ref ae, .ref al, .ref ap, .ref az, .ref ar, .int (zI np), .ref am, .int (zI th)]))]) (va_runS (As := [.int (zI t)]) (rest := [.int (zI b), .int (zI a), .int (zI i), .ref h0]) CF (c_X6_isRow l D t (by omega) H.size) (va_cwS 1 hts gX6_convolve_X6_isRow rfl rfl rfl (by decide +kernel) ⟨Nat.le_of_ble_eq_true rfl, Nat.le_of_ble_eq_true rfl⟩) (z_preS z_nilP (z_nilD (A := A)) hRc z_noX (hK.sub (tys' := []) [] rfl)) rfl rfl hl.1 rfl (lv_room (Nat.le_of_ble_eq_true rfl)) dX6_convolve_6 ⟨Nat.le_of_ble_eq_true rfl, Nat.le_of_ble_eq_true rfl⟩) hP hS hA (cells' := 0) (slots' := 0) rfl rfl (fun H locs hP hS => ?_)
  have hR := hR0.at hS
  refine z_ifB_eq (tgt := 16) hx hb dX6_convolve_9 (by decide) (fun c_9 => absurd c_9 (by omega)) (fun c_9 => ?_)
  refine z_iconst hx hb dX6_convolve_12 ?_
  refine lv_goto (tgt := 17) hx hb dX6_convolve_13 (by decide) ?_
  have hRc := z_subR (ws := [(h0, .inr (5, [.ref ae, .ref al, .ref ap, .ref az, .ref ar, .int (zI np), .ref am, .int (zI th)]))]) (rs := [(al, .inl (cI, 4, .inl (zA xl))), (az, .inl (cI, 8, .inl (zA xz)))]) (rc := [(al, .inl (cI, 4, .inl (zA xl))), (az, .inl (cI, 8, .inl (zA xz)))]) hP hR (isR := [1, 2]) rfl
  have hPc := hP.sub (ws' := [(h0, .inr (5, [.ref ae, .ref al, .ref ap, .ref az, .ref ar, .int (zI np), .ref am, .int (zI th)]))]) [0] rfl
  have hDc := hD.sub (ws' := [(h0, .inr (5, [.ref ae, .ref al, .ref ap, .ref az, .ref ar, .int (zI np), .ref am, .int (zI th)]))]) [0] (by decide) rfl
  refine z_mu (ws := [(h0, .inr (5, [.ref ae, .ref al, .ref ap, .ref az, .ref ar, .int (zI np), .ref am, .int (zI th)]))]) (wc := [(h0, .inr (5, [.ref ae, .ref al, .ref ap, .ref az, .ref ar, .int (zI np), .ref am, .int (zI th)]))]) (wr := []) (va_runV (As := [.int (zI i), .int (zI a), .int (zI b), .int (zI 0)]) (rest := []) CF (c_X6_areRight_2b l D cI h0 ae al ap az ar am np th xl xz i a b 0 (by omega) (by omega) (by omega) (by omega) (by omega) (by omega) (by omega) (by omega) (by omega) (by omega) (by omega) (by omega) (by omega) (by omega) H.size) (cwV 4 hts gX6_convolve_X6_areRight rfl rfl rfl (by decide +kernel) ⟨Nat.le_of_ble_eq_true rfl, Nat.le_of_ble_eq_true rfl⟩) (z_preV (va_recv hK hP (ci := 5) (q0 := 0) rfl rfl) hPc hDc hRc (z_dis (ws := [(h0, .inr (5, [.ref ae, .ref al, .ref ap, .ref az, .ref ar, .int (zI np), .ref am, .int (zI th)]))]) (rs := [(al, .inl (cI, 4, .inl (zA xl))), (az, .inl (cI, 8, .inl (zA xz)))]) (wc := [(h0, .inr (5, [.ref ae, .ref al, .ref ap, .ref az, .ref ar, .int (zI np), .ref am, .int (zI th)]))]) (rc := [(al, .inl (cI, 4, .inl (zA xl))), (az, .inl (cI, 8, .inl (zA xz)))]) hD hR0 (isC := [0]) (isR := [1, 2]) rfl rfl (by decide)) (hK.sub (tys' := [(cI, .int)]) [0] rfl)) rfl rfl hl.1 rfl (lv_room (Nat.le_of_ble_eq_true rfl)) dX6_convolve_17 ⟨Nat.le_of_ble_eq_true rfl, Nat.le_of_ble_eq_true rfl⟩) hP hD hS hA [0] [] rfl rfl (by decide) (by decide) (cells' := 0) (slots' := 0) rfl rfl (fun u_17 H locs hp_17 hP hD hS => ?_)
  have hp_17 : True := hp_17
  have hP := hP.sub (ws' := [(h0, .inr (5, [.ref ae, .ref al, .ref ap, .ref az, .ref ar, .int (zI np), .ref am, .int (zI 2)]))]) [0] rfl
  have hD := hD.sub (ws' := [(h0, .inr (5, [.ref ae, .ref al, .ref ap, .ref az, .ref ar, .int (zI np), .ref am, .int (zI 2)]))]) [0] (by decide) rfl
  have hR := hR0.at hS
  refine z_if_ne (tgt := 25) hx hb dX6_convolve_20 (by decide) (by omega) (fun c_20 => absurd c_20 (by omega)) (fun c_20 => ?_)
  refine z_iconst hx hb dX6_convolve_23 ?_
  exact z_iret hx hb hr hlocks rfl () (rfl) (trivial) hP hD hS dX6_convolve_24

set_option maxHeartbeats 4000000 in
set_option maxRecDepth 100000 in
theorem c_X6_convolve_ok (l : Launch) (D : va_G) (cI : ClassId) (h0 : Nat) (ae : Nat) (al : Nat) (ap : Nat) (az : Nat) (ar : Nat) (am : Nat) (np : Int) (th : Int) (xe : Int → Int) (xl : Int → Int) (xm : Int → Int) (xp : Int → Int) (xz : Int → Int) (i : Int) (a : Int) (b : Int) (t : Int) (ha_i : -2147483648 ≤ i ∧ i ≤ 2147483647) (ha_a : -2147483648 ≤ a ∧ a ≤ 2147483647) (ha_b : -2147483648 ≤ b ∧ b ≤ 2147483647) (ha_t : -2147483648 ≤ t ∧ t ≤ 2147483647) (hnp_ : 0 ≤ np ∧ np ≤ 8) (hi0 : 0 ≤ i ∧ i < np) (hz_ : 1 ≤ xz i ∧ xz i ≤ 64) (hp_ : 2 ≤ xp i ∧ xp i ≤ 10000) (hr_a : 0 ≤ a ∧ a < 4) (hr_b : 0 ≤ b ∧ b < 4) (hr_t : 0 ≤ t ∧ t < 4) (hxl_a : 0 ≤ xl a ∧ xl a ≤ 64) (hxl_b : 0 ≤ xl b ∧ xl b ≤ 64) (hxe : ∀ k, 0 ≤ k → k < 256 → -1000000 ≤ xe k ∧ xe k ≤ 1000000) (hla : xl a ≤ xz i) (hlb : xl b ≤ xz i) : zC l yX6_convolve wsX6_convolve ({ frames := 3, cells := 0, slots := 0, locals := 73 } : Room) D [(cI, .int)] [(h0, .inr (5, [.ref ae, .ref al, .ref ap, .ref az, .ref ar, .int (zI np), .ref am, .int (zI th)])), (ae, .inl (cI, 256, .inl (zA xe))), (al, .inl (cI, 4, .inl (zA xl))), (am, .inl (cI, 64, .inl (zA xm)))] [(ap, .inl (cI, 8, .inl (zA xp))), (az, .inl (cI, 8, .inl (zA xz)))] [.ref h0, .int (zI i), .int (zI a), .int (zI b), .int (zI t)] (S := (Int → Int) × (Int → Int)) (fun (xe2, xm2) => (∀ k, 0 ≤ k → k < xz i → xe2 (64 * t + k) = cyc (xp i) (xz i) (fun j => rowAt (eRow xe a) (xl a) j % xp i) (fun j => rowAt (eRow xe b) (xl b) j % xp i)  k) ∧ (∀ x, x < 64 * t ∨ 64 * t + xz i ≤ x → xe2 x = xe x)) (fun (xe2, xm2) => some (.int (zI (xz i)))) (fun (xe2, xm2) => [(h0, .inr (5, [.ref ae, .ref al, .ref ap, .ref az, .ref ar, .int (zI np), .ref am, .int (zI 0)])), (ae, .inl (cI, 256, .inl (zA xe2))), (al, .inl (cI, 4, .inl (zA (zU xl t (xz i))))), (am, .inl (cI, 64, .inl (zA xm2)))]) := by
  refine z_start (cc := cX6_convolve) (maxL := 6) (ret := (some .int)) (own := RX6) (by decide) rfl rfl (Nat.le_of_ble_eq_true rfl) [(0, .ref h0), (1, .int (zI i)), (2, .int (zI a)), (3, .int (zI b)), (4, .int (zI t))] rfl ?_
  intro pp ee s mm below meth cc A H ls hx hb hr hml hts hown hlocks hin hK hA hP hD hS hR0 hR hl
  have CF : CallFix pp mm cc cX6_convolve 6 s ([.ref h0, .int (zI i), .int (zI a), .int (zI b), .int (zI t)] : List Value).toArray wsX6_convolve RX6 := ⟨hx, hb, hml, hown, hts⟩
  have hi6 : ∀ w ∈ wsX60, w ∈ wsX6_convolve := by decide +kernel
  refine lv_aload_n hx hb dX6_convolve_0 rfl (lv_at hl 0 rfl) ?_
  refine lv_iload_n hx hb dX6_convolve_1 rfl (lv_at hl 1 rfl) ?_
  refine lv_iload_n hx hb dX6_convolve_2 rfl (lv_at hl 2 rfl) ?_
  refine lv_iload_n hx hb dX6_convolve_3 rfl (lv_at hl 3 rfl) ?_
  refine lv_iload hx hb dX6_convolve_4 (lv_at hl 4 rfl) ?_
  have hRc : va_P D vwCl [] H := z_nilP
  refine z_ro (ws := [(h0, .inr (5, [.ref ae, .ref al, .ref ap, .ref az, .ref ar, .int (zI np), .ref am, .int (zI th)])), (ae, .inl (cI, 256, .inl (zA xe))), (al, .inl (cI, 4, .inl (zA xl))), (am, .inl (cI, 64, .inl (zA xm)))]) (va_runS (As := [.int (zI t)]) (rest := [.int (zI b), .int (zI a), .int (zI i), .ref h0]) CF (c_X6_isRow l D t (by omega) H.size) (va_cwS 1 hts gX6_convolve_X6_isRow rfl rfl rfl (by decide +kernel) ⟨Nat.le_of_ble_eq_true rfl, Nat.le_of_ble_eq_true rfl⟩) (z_preS z_nilP (z_nilD (A := A)) hRc z_noX (hK.sub (tys' := []) [] rfl)) rfl rfl hl.1 rfl (lv_room (Nat.le_of_ble_eq_true rfl)) dX6_convolve_6 ⟨Nat.le_of_ble_eq_true rfl, Nat.le_of_ble_eq_true rfl⟩) hP hS hA (cells' := 0) (slots' := 0) rfl rfl (fun H locs hP hS => ?_)
  have hR := hR0.at hS
  refine z_ifB_eq (tgt := 16) hx hb dX6_convolve_9 (by decide) (fun c_9 => absurd c_9 (by omega)) (fun c_9 => ?_)
  refine z_iconst hx hb dX6_convolve_12 ?_
  refine lv_goto (tgt := 17) hx hb dX6_convolve_13 (by decide) ?_
  have hRc := z_subR (ws := [(h0, .inr (5, [.ref ae, .ref al, .ref ap, .ref az, .ref ar, .int (zI np), .ref am, .int (zI th)])), (ae, .inl (cI, 256, .inl (zA xe))), (al, .inl (cI, 4, .inl (zA xl))), (am, .inl (cI, 64, .inl (zA xm)))]) (rs := [(ap, .inl (cI, 8, .inl (zA xp))), (az, .inl (cI, 8, .inl (zA xz)))]) (rc := [(al, .inl (cI, 4, .inl (zA xl))), (az, .inl (cI, 8, .inl (zA xz)))]) hP hR (isR := [2, 5]) rfl
  have hPc := hP.sub (ws' := [(h0, .inr (5, [.ref ae, .ref al, .ref ap, .ref az, .ref ar, .int (zI np), .ref am, .int (zI th)]))]) [0] rfl
  have hDc := hD.sub (ws' := [(h0, .inr (5, [.ref ae, .ref al, .ref ap, .ref az, .ref ar, .int (zI np), .ref am, .int (zI th)]))]) [0] (by decide) rfl
  refine z_mu (ws := [(h0, .inr (5, [.ref ae, .ref al, .ref ap, .ref az, .ref ar, .int (zI np), .ref am, .int (zI th)])), (ae, .inl (cI, 256, .inl (zA xe))), (al, .inl (cI, 4, .inl (zA xl))), (am, .inl (cI, 64, .inl (zA xm)))]) (wc := [(h0, .inr (5, [.ref ae, .ref al, .ref ap, .ref az, .ref ar, .int (zI np), .ref am, .int (zI th)]))]) (wr := [(ae, .inl (cI, 256, .inl (zA xe))), (al, .inl (cI, 4, .inl (zA xl))), (am, .inl (cI, 64, .inl (zA xm)))]) (va_runV (As := [.int (zI i), .int (zI a), .int (zI b), .int (zI 0)]) (rest := []) CF (c_X6_areRight_ok l D cI h0 ae al ap az ar am np th xl xz i a b 0 (by omega) (by omega) (by omega) (by omega) (by omega) (by omega) (by omega) (by omega) (by omega) (by omega) (by omega) (by omega) (by omega) (by omega) H.size) (cwV 4 hts gX6_convolve_X6_areRight rfl rfl rfl (by decide +kernel) ⟨Nat.le_of_ble_eq_true rfl, Nat.le_of_ble_eq_true rfl⟩) (z_preV (va_recv hK hP (ci := 5) (q0 := 0) rfl rfl) hPc hDc hRc (z_dis (ws := [(h0, .inr (5, [.ref ae, .ref al, .ref ap, .ref az, .ref ar, .int (zI np), .ref am, .int (zI th)])), (ae, .inl (cI, 256, .inl (zA xe))), (al, .inl (cI, 4, .inl (zA xl))), (am, .inl (cI, 64, .inl (zA xm)))]) (rs := [(ap, .inl (cI, 8, .inl (zA xp))), (az, .inl (cI, 8, .inl (zA xz)))]) (wc := [(h0, .inr (5, [.ref ae, .ref al, .ref ap, .ref az, .ref ar, .int (zI np), .ref am, .int (zI th)]))]) (rc := [(al, .inl (cI, 4, .inl (zA xl))), (az, .inl (cI, 8, .inl (zA xz)))]) hD hR0 (isC := [0]) (isR := [2, 5]) rfl rfl (by decide)) (hK.sub (tys' := [(cI, .int)]) [0] rfl)) rfl rfl hl.1 rfl (lv_room (Nat.le_of_ble_eq_true rfl)) dX6_convolve_17 ⟨Nat.le_of_ble_eq_true rfl, Nat.le_of_ble_eq_true rfl⟩) hP hD hS hA [0] [1, 2, 3] rfl rfl (by decide) (by decide) (cells' := 0) (slots' := 0) rfl rfl (fun u_17 H locs hp_17 hP hD hS => ?_)
  have hp_17 : True := hp_17
  have hP := hP.sub (ws' := [(h0, .inr (5, [.ref ae, .ref al, .ref ap, .ref az, .ref ar, .int (zI np), .ref am, .int (zI 0)])), (ae, .inl (cI, 256, .inl (zA xe))), (al, .inl (cI, 4, .inl (zA xl))), (am, .inl (cI, 64, .inl (zA xm)))]) [3, 0, 1, 2] rfl
  have hD := hD.sub (ws' := [(h0, .inr (5, [.ref ae, .ref al, .ref ap, .ref az, .ref ar, .int (zI np), .ref am, .int (zI 0)])), (ae, .inl (cI, 256, .inl (zA xe))), (al, .inl (cI, 4, .inl (zA xl))), (am, .inl (cI, 64, .inl (zA xm)))]) [3, 0, 1, 2] (by decide) rfl
  have hR := hR0.at hS
  refine z_if_ne (tgt := 25) hx hb dX6_convolve_20 (by decide) (by omega) (fun c_20 => ?_) (fun c_20 => absurd c_20 (by omega))
  refine z_iconst hx hb dX6_convolve_25 ?_
  refine lv_istore (lv' := [(5, .int (zI 0)), (0, .ref h0), (1, .int (zI i)), (2, .int (zI a)), (3, .int (zI b)), (4, .int (zI t))]) hx hb dX6_convolve_26 hl (by decide) rfl (fun ls hl => ?_)
  have hl := lv_sub hl [1, 2, 3, 4, 5, 0] rfl
  have hl : lv_has ls 6 [(0, .ref h0), (1, .int (zI i)), (2, .int (zI a)), (3, .int (zI b)), (4, .int (zI t)), (5, .int (zI 0))] := hl
  refine z_loop (σ := Int × (Int → Int)) (fun (k, xm2) => (xz i - k).toNat) (fun (k, xm2) H locs ls => (0 ≤ k ∧ k ≤ xz i) ∧ (∀ y, 0 ≤ y → y < k → xm2 y = cyc (xp i) (xz i) (fun j => rowAt (eRow xe a) (xl a) j % xp i) (fun j => rowAt (eRow xe b) (xl b) j % xp i)  y) ∧ va_P D vwCl [(h0, .inr (5, [.ref ae, .ref al, .ref ap, .ref az, .ref ar, .int (zI np), .ref am, .int (zI 0)])), (ae, .inl (cI, 256, .inl (zA xe))), (al, .inl (cI, 4, .inl (zA xl))), (am, .inl (cI, 64, .inl (zA xm2)))] H ∧ va_D A [(h0, .inr (5, [.ref ae, .ref al, .ref ap, .ref az, .ref ar, .int (zI np), .ref am, .int (zI 0)])), (ae, .inl (cI, 256, .inl (zA xe))), (al, .inl (cI, 4, .inl (zA xl))), (am, .inl (cI, 64, .inl (zA xm2)))] ∧ va_S A s.heap H locs ∧ lv_has ls 6 [(0, .ref h0), (1, .int (zI i)), (2, .int (zI a)), (3, .int (zI b)), (4, .int (zI t)), (5, .int (zI k))]) (0, xm) ⟨(by omega), (fun k h1 h2 => absurd h2 (by omega)), hP, hD, hS, hl⟩ ?_
  intro ⟨k, xm2⟩ H locs ls hI ih_28
  obtain ⟨hk_, hm_, hP, hD, hS, hl⟩ := hI
  have hR := hR0.at hS
  refine lv_iload hx hb dX6_convolve_28 (lv_at hl 5 rfl) ?_
  refine lv_aload_n hx hb dX6_convolve_30 rfl (lv_at hl 0 rfl) ?_
  refine va_get (D := D) (ci := 5) (C := RX6) (T := TX6) (N := 8) hx hb hts hi6 hown hK hP 0 rfl rfl 3 (by decide) (hts (.fieldLink RX6 19 "ButterflyYardModel" "sizes" "[I") (by decide +kernel)) (fun _ h9 => h9) rfl dX6_convolve_31 ?_
  refine lv_iload_n hx hb dX6_convolve_34 rfl (lv_at hl 1 rfl) ?_
  refine z_iald (cA := cI) (n := 8) (g := xz) hx hb hK hR 1 0 rfl rfl rfl (by omega) dX6_convolve_35 ?_
  refine z_icmp_ge (tgt := 61) hx hb dX6_convolve_36 (by decide) (by omega) (fun c_36 => ?_) (fun c_36 => ?_)
  · refine lv_aload_n hx hb dX6_convolve_61 rfl (lv_at hl 0 rfl) ?_
    refine lv_iload hx hb dX6_convolve_62 (lv_at hl 4 rfl) ?_
    refine lv_aload_n hx hb dX6_convolve_64 rfl (lv_at hl 0 rfl) ?_
    refine va_get (D := D) (ci := 5) (C := RX6) (T := TX6) (N := 8) hx hb hts hi6 hown hK hP 0 rfl rfl 3 (by decide) (hts (.fieldLink RX6 19 "ButterflyYardModel" "sizes" "[I") (by decide +kernel)) (fun _ h9 => h9) rfl dX6_convolve_65 ?_
    refine lv_iload_n hx hb dX6_convolve_68 rfl (lv_at hl 1 rfl) ?_
    refine z_iald (cA := cI) (n := 8) (g := xz) hx hb hK hR 1 0 rfl rfl rfl (by omega) dX6_convolve_69 ?_
    have hRc := z_subR (ws := [(h0, .inr (5, [.ref ae, .ref al, .ref ap, .ref az, .ref ar, .int (zI np), .ref am, .int (zI 0)])), (ae, .inl (cI, 256, .inl (zA xe))), (al, .inl (cI, 4, .inl (zA xl))), (am, .inl (cI, 64, .inl (zA xm2)))]) (rs := [(ap, .inl (cI, 8, .inl (zA xp))), (az, .inl (cI, 8, .inl (zA xz)))]) (rc := [(h0, .inr (5, [.ref ae, .ref al, .ref ap, .ref az, .ref ar, .int (zI np), .ref am, .int (zI 0)])), (am, .inl (cI, 64, .inl (zA xm2)))]) hP hR (isR := [0, 3]) rfl
    have hPc := hP.sub (ws' := [(ae, .inl (cI, 256, .inl (zA xe))), (al, .inl (cI, 4, .inl (zA xl)))]) [1, 2] rfl
    have hDc := hD.sub (ws' := [(ae, .inl (cI, 256, .inl (zA xe))), (al, .inl (cI, 4, .inl (zA xl)))]) [1, 2] (by decide) rfl
    refine z_mu (ws := [(h0, .inr (5, [.ref ae, .ref al, .ref ap, .ref az, .ref ar, .int (zI np), .ref am, .int (zI 0)])), (ae, .inl (cI, 256, .inl (zA xe))), (al, .inl (cI, 4, .inl (zA xl))), (am, .inl (cI, 64, .inl (zA xm2)))]) (wc := [(ae, .inl (cI, 256, .inl (zA xe))), (al, .inl (cI, 4, .inl (zA xl)))]) (wr := [(h0, .inr (5, [.ref ae, .ref al, .ref ap, .ref az, .ref ar, .int (zI np), .ref am, .int (zI 0)])), (am, .inl (cI, 64, .inl (zA xm2)))]) (va_runV (As := [.int (zI t), .int (zI (xz i))]) (rest := []) CF (c_X6_put l D cI h0 ae al ap az ar am np 0 xe xl xm2 t (xz i) (by omega) (by omega) H.size) (cwV 2 hts gX6_convolve_X6_put rfl rfl rfl (by decide +kernel) ⟨Nat.le_of_ble_eq_true rfl, Nat.le_of_ble_eq_true rfl⟩) (z_preV (va_recv hK hP (ci := 5) (q0 := 0) rfl rfl) hPc hDc hRc (z_dis (ws := [(h0, .inr (5, [.ref ae, .ref al, .ref ap, .ref az, .ref ar, .int (zI np), .ref am, .int (zI 0)])), (ae, .inl (cI, 256, .inl (zA xe))), (al, .inl (cI, 4, .inl (zA xl))), (am, .inl (cI, 64, .inl (zA xm2)))]) (rs := [(ap, .inl (cI, 8, .inl (zA xp))), (az, .inl (cI, 8, .inl (zA xz)))]) (wc := [(ae, .inl (cI, 256, .inl (zA xe))), (al, .inl (cI, 4, .inl (zA xl)))]) (rc := [(h0, .inr (5, [.ref ae, .ref al, .ref ap, .ref az, .ref ar, .int (zI np), .ref am, .int (zI 0)])), (am, .inl (cI, 64, .inl (zA xm2)))]) hD hR0 (isC := [1, 2]) (isR := [0, 3]) rfl rfl (by decide)) (hK.sub (tys' := [(cI, .int)]) [0] rfl)) rfl rfl hl.1 rfl (lv_room (Nat.le_of_ble_eq_true rfl)) dX6_convolve_70 ⟨Nat.le_of_ble_eq_true rfl, Nat.le_of_ble_eq_true rfl⟩) hP hD hS hA [1, 2] [0, 3] rfl rfl (by decide) (by decide) (cells' := 0) (slots' := 0) rfl rfl (fun u_70 H locs hp_70 hP hD hS => ?_)
    revert hp_70 hP hD
    generalize u_70 = xe2_70
    intro hp_70 hP hD
    have hp_70 : (∀ k, 0 ≤ k → k < (xz i) → xe2_70 (64 * t + k) = xm2 k) ∧ (∀ x, x < 64 * t ∨ 64 * t + (xz i) ≤ x → xe2_70 x = xe x) := hp_70
    have hP := hP.sub (ws' := [(h0, .inr (5, [.ref ae, .ref al, .ref ap, .ref az, .ref ar, .int (zI np), .ref am, .int (zI 0)])), (ae, .inl (cI, 256, .inl (zA xe2_70))), (al, .inl (cI, 4, .inl (zA (zU xl t (xz i))))), (am, .inl (cI, 64, .inl (zA xm2)))]) [0, 2, 3, 1] rfl
    have hD := hD.sub (ws' := [(h0, .inr (5, [.ref ae, .ref al, .ref ap, .ref az, .ref ar, .int (zI np), .ref am, .int (zI 0)])), (ae, .inl (cI, 256, .inl (zA xe2_70))), (al, .inl (cI, 4, .inl (zA (zU xl t (xz i))))), (am, .inl (cI, 64, .inl (zA xm2)))]) [0, 2, 3, 1] (by decide) rfl
    have hR := hR0.at hS
    exact z_iret hx hb hr hlocks rfl (xe2_70, xm2) (rfl) (by exact ⟨fun y h1 h2 => by show xe2_70 (64 * t + y) = _; rw [hp_70.1 y h1 h2]; exact hm_ y h1 (by omega), hp_70.2⟩) hP hD hS dX6_convolve_73
  · refine lv_aload_n hx hb dX6_convolve_39 rfl (lv_at hl 0 rfl) ?_
    refine va_get (D := D) (ci := 5) (C := RX6) (T := TX6) (N := 8) hx hb hts hi6 hown hK hP 0 rfl rfl 6 (by decide) (hts (.fieldLink RX6 25 "ButterflyYardModel" "made" "[I") (by decide +kernel)) (fun _ h9 => h9) rfl dX6_convolve_40 ?_
    refine lv_iload hx hb dX6_convolve_43 (lv_at hl 5 rfl) ?_
    refine lv_aload_n hx hb dX6_convolve_45 rfl (lv_at hl 0 rfl) ?_
    refine lv_iload_n hx hb dX6_convolve_46 rfl (lv_at hl 1 rfl) ?_
    refine lv_iload_n hx hb dX6_convolve_47 rfl (lv_at hl 2 rfl) ?_
    refine lv_iload_n hx hb dX6_convolve_48 rfl (lv_at hl 3 rfl) ?_
    refine lv_iload hx hb dX6_convolve_49 (lv_at hl 5 rfl) ?_
    have hRc := z_subR (ws := [(h0, .inr (5, [.ref ae, .ref al, .ref ap, .ref az, .ref ar, .int (zI np), .ref am, .int (zI 0)])), (ae, .inl (cI, 256, .inl (zA xe))), (al, .inl (cI, 4, .inl (zA xl))), (am, .inl (cI, 64, .inl (zA xm2)))]) (rs := [(ap, .inl (cI, 8, .inl (zA xp))), (az, .inl (cI, 8, .inl (zA xz)))]) (rc := [(h0, .inr (5, [.ref ae, .ref al, .ref ap, .ref az, .ref ar, .int (zI np), .ref am, .int (zI 0)])), (ae, .inl (cI, 256, .inl (zA xe))), (al, .inl (cI, 4, .inl (zA xl))), (ap, .inl (cI, 8, .inl (zA xp))), (az, .inl (cI, 8, .inl (zA xz)))]) hP hR (isR := [0, 1, 2, 4, 5]) rfl
    refine z_ro (ws := [(h0, .inr (5, [.ref ae, .ref al, .ref ap, .ref az, .ref ar, .int (zI np), .ref am, .int (zI 0)])), (ae, .inl (cI, 256, .inl (zA xe))), (al, .inl (cI, 4, .inl (zA xl))), (am, .inl (cI, 64, .inl (zA xm2)))]) (va_runV (As := [.int (zI i), .int (zI a), .int (zI b), .int (zI k)]) (rest := [.int (zI k), .ref am]) CF (c_X6_roundAt l D cI h0 ae al ap az ar am np 0 xe xl xp xz i a b k (by omega) (by omega) (by omega) (by omega) (by omega) (by omega) (by omega) (by omega) (by exact hxe) (by omega) H.size) (cwV 4 hts gX6_convolve_X6_roundAt rfl rfl rfl (by decide +kernel) ⟨Nat.le_of_ble_eq_true rfl, Nat.le_of_ble_eq_true rfl⟩) (z_preV (va_recv hK hP (ci := 5) (q0 := 0) rfl rfl) z_nilP (z_nilD (A := A)) hRc z_noX (hK.sub (tys' := [(cI, .int)]) [0] rfl)) rfl rfl hl.1 rfl (lv_room (Nat.le_of_ble_eq_true rfl)) dX6_convolve_51 ⟨Nat.le_of_ble_eq_true rfl, Nat.le_of_ble_eq_true rfl⟩) hP hS hA (cells' := 0) (slots' := 0) rfl rfl (fun H locs hP hS => ?_)
    have hR := hR0.at hS
    refine z_iast (cA := cI) (n := 64) (g := xm2) (i := k) (v := cyc (xp i) (xz i) (fun j => rowAt (eRow xe a) (xl a) j % xp i) (fun j => rowAt (eRow xe b) (xl b) j % xp i) k) hx hb hK hP hD hS 3 0 rfl rfl rfl (by omega) dX6_convolve_54 (fun H locs hP hD hS => ?_)
    have hP : va_P D vwCl [(h0, .inr (5, [.ref ae, .ref al, .ref ap, .ref az, .ref ar, .int (zI np), .ref am, .int (zI 0)])), (ae, .inl (cI, 256, .inl (zA xe))), (al, .inl (cI, 4, .inl (zA xl))), (am, .inl (cI, 64, .inl (zA (zU xm2 k (cyc (xp i) (xz i) (fun j => rowAt (eRow xe a) (xl a) j % xp i) (fun j => rowAt (eRow xe b) (xl b) j % xp i) k)))))] H := hP
    have hD : va_D A [(h0, .inr (5, [.ref ae, .ref al, .ref ap, .ref az, .ref ar, .int (zI np), .ref am, .int (zI 0)])), (ae, .inl (cI, 256, .inl (zA xe))), (al, .inl (cI, 4, .inl (zA xl))), (am, .inl (cI, 64, .inl (zA (zU xm2 k (cyc (xp i) (xz i) (fun j => rowAt (eRow xe a) (xl a) j % xp i) (fun j => rowAt (eRow xe b) (xl b) j % xp i) k)))))] := hD
    have hR := hR0.at hS
    refine lv_iinc (v := zI (k + 1)) (lv' := [(5, .int (zI (k + 1))), (0, .ref h0), (1, .int (zI i)), (2, .int (zI a)), (3, .int (zI b)), (4, .int (zI t))]) hx hb dX6_convolve_55 hl (k := 5) rfl (zI_add _ _) (by decide) rfl (fun ls hl => ?_)
    have hl := lv_sub hl [1, 2, 3, 4, 5, 0] rfl
    have hl : lv_has ls 6 [(0, .ref h0), (1, .int (zI i)), (2, .int (zI a)), (3, .int (zI b)), (4, .int (zI t)), (5, .int (zI (k + 1)))] := hl
    refine lv_goto (tgt := 28) hx hb dX6_convolve_58 (by decide) ?_
    exact ih_28 (k + 1, zU xm2 k (cyc (xp i) (xz i) (fun j => rowAt (eRow xe a) (xl a) j % xp i) (fun j => rowAt (eRow xe b) (xl b) j % xp i) k)) _ _ _ ⟨(by omega), (by exact zU_fill hm_ rfl), hP, hD, hS, hl⟩ (by show (xz i - (k + 1)).toNat < (xz i - k).toNat; omega)

set_option maxHeartbeats 4000000 in
set_option maxRecDepth 100000 in
theorem c_X6_convolved_1a (l : Launch) (D : va_G) (cI : ClassId) (h0 : Nat) (ae : Nat) (al : Nat) (ap : Nat) (az : Nat) (ar : Nat) (am : Nat) (np : Int) (th : Int) (i : Int) (a : Int) (b : Int) (x : Int) (ha_i : -2147483648 ≤ i ∧ i ≤ 2147483647) (ha_a : -2147483648 ≤ a ∧ a ≤ 2147483647) (ha_b : -2147483648 ≤ b ∧ b ≤ 2147483647) (ha_x : -2147483648 ≤ x ∧ x ≤ 2147483647) (hnp_ : 0 ≤ np ∧ np ≤ 8) (hi0 : ¬ (0 ≤ i ∧ i < np)) : zC l yX6_convolved wsX6_convolved ({ frames := 2, cells := 0, slots := 0, locals := 46 } : Room) D [(cI, .int)] [(h0, .inr (5, [.ref ae, .ref al, .ref ap, .ref az, .ref ar, .int (zI np), .ref am, .int (zI th)]))] [] [.ref h0, .int (zI i), .int (zI a), .int (zI b), .int (zI x)] (S := Unit) (fun u => True) (fun u => some (.int (zI 0))) (fun u => [(h0, .inr (5, [.ref ae, .ref al, .ref ap, .ref az, .ref ar, .int (zI np), .ref am, .int (zI 1)]))]) := by
  refine z_start (cc := cX6_convolved) (maxL := 6) (ret := (some .int)) (own := RX6) (by decide) rfl rfl (Nat.le_of_ble_eq_true rfl) [(0, .ref h0), (1, .int (zI i)), (2, .int (zI a)), (3, .int (zI b)), (4, .int (zI x))] rfl ?_
  intro pp ee s mm below meth cc A H ls hx hb hr hml hts hown hlocks hin hK hA hP hD hS hR0 hR hl
  have CF : CallFix pp mm cc cX6_convolved 6 s ([.ref h0, .int (zI i), .int (zI a), .int (zI b), .int (zI x)] : List Value).toArray wsX6_convolved RX6 := ⟨hx, hb, hml, hown, hts⟩
  refine lv_aload_n hx hb dX6_convolved_0 rfl (lv_at hl 0 rfl) ?_
  refine lv_iload_n hx hb dX6_convolved_1 rfl (lv_at hl 1 rfl) ?_
  have hRc := z_subR (ws := [(h0, .inr (5, [.ref ae, .ref al, .ref ap, .ref az, .ref ar, .int (zI np), .ref am, .int (zI th)]))]) (rs := []) (rc := [(h0, .inr (5, [.ref ae, .ref al, .ref ap, .ref az, .ref ar, .int (zI np), .ref am, .int (zI th)]))]) hP z_nilP (isR := [0]) rfl
  refine z_ro (ws := [(h0, .inr (5, [.ref ae, .ref al, .ref ap, .ref az, .ref ar, .int (zI np), .ref am, .int (zI th)]))]) (va_runV (As := [.int (zI i)]) (rest := []) CF (c_X6_isPlan l D h0 ae al ap az ar am np th i (by omega) (by omega) H.size) (cwV 1 hts gX6_convolved_X6_isPlan rfl rfl rfl (by decide +kernel) ⟨Nat.le_of_ble_eq_true rfl, Nat.le_of_ble_eq_true rfl⟩) (z_preV (va_recv hK hP (ci := 5) (q0 := 0) rfl rfl) z_nilP (z_nilD (A := A)) hRc z_noX (hK.sub (tys' := []) [] rfl)) rfl rfl hl.1 rfl (lv_room (Nat.le_of_ble_eq_true rfl)) dX6_convolved_2 ⟨Nat.le_of_ble_eq_true rfl, Nat.le_of_ble_eq_true rfl⟩) hP hS hA (cells' := 0) (slots' := 0) rfl rfl (fun H locs hP hS => ?_)
  refine z_ifB_eq (tgt := 28) hx hb dX6_convolved_5 (by decide) (fun c_5 => ?_) (fun c_5 => absurd c_5 (by omega))
  refine z_iconst hx hb dX6_convolved_28 ?_
  refine lv_istore (lv' := [(5, .int (zI 0)), (0, .ref h0), (1, .int (zI i)), (2, .int (zI a)), (3, .int (zI b)), (4, .int (zI x))]) hx hb dX6_convolved_29 hl (by decide) rfl (fun ls hl => ?_)
  have hl := lv_sub hl [1, 2, 3, 4, 5, 0] rfl
  have hl : lv_has ls 6 [(0, .ref h0), (1, .int (zI i)), (2, .int (zI a)), (3, .int (zI b)), (4, .int (zI x)), (5, .int (zI 0))] := hl
  refine lv_aload_n hx hb dX6_convolved_31 rfl (lv_at hl 0 rfl) ?_
  refine lv_iload_n hx hb dX6_convolved_32 rfl (lv_at hl 1 rfl) ?_
  refine lv_iload_n hx hb dX6_convolved_33 rfl (lv_at hl 2 rfl) ?_
  refine lv_iload_n hx hb dX6_convolved_34 rfl (lv_at hl 3 rfl) ?_
  refine lv_iload hx hb dX6_convolved_35 (lv_at hl 5 rfl) ?_
  refine z_if_eq (tgt := 44) hx hb dX6_convolved_37 (by decide) (by omega) (fun c_37 => ?_) (fun c_37 => absurd c_37 (by omega))
  refine z_iconst hx hb dX6_convolved_44 ?_
  have hRc : va_P D vwCl [] H := z_nilP
  have hPc := hP.sub (ws' := [(h0, .inr (5, [.ref ae, .ref al, .ref ap, .ref az, .ref ar, .int (zI np), .ref am, .int (zI th)]))]) [0] rfl
  have hDc := hD.sub (ws' := [(h0, .inr (5, [.ref ae, .ref al, .ref ap, .ref az, .ref ar, .int (zI np), .ref am, .int (zI th)]))]) [0] (by decide) rfl
  refine z_mu (ws := [(h0, .inr (5, [.ref ae, .ref al, .ref ap, .ref az, .ref ar, .int (zI np), .ref am, .int (zI th)]))]) (wc := [(h0, .inr (5, [.ref ae, .ref al, .ref ap, .ref az, .ref ar, .int (zI np), .ref am, .int (zI th)]))]) (wr := []) (va_runV (As := [.int (zI i), .int (zI a), .int (zI b), .int (zI (-1))]) (rest := []) CF (c_X6_areRight_1a l D cI h0 ae al ap az ar am np th i a b (-1) (by omega) (by omega) (by omega) (by omega) (by omega) (by omega) H.size) (cwV 4 hts gX6_convolved_X6_areRight rfl rfl rfl (by decide +kernel) ⟨Nat.le_of_ble_eq_true rfl, Nat.le_of_ble_eq_true rfl⟩) (z_preV (va_recv hK hP (ci := 5) (q0 := 0) rfl rfl) hPc hDc hRc (z_dis (ws := [(h0, .inr (5, [.ref ae, .ref al, .ref ap, .ref az, .ref ar, .int (zI np), .ref am, .int (zI th)]))]) (rs := []) (wc := [(h0, .inr (5, [.ref ae, .ref al, .ref ap, .ref az, .ref ar, .int (zI np), .ref am, .int (zI th)]))]) (rc := []) hD hR0 (isC := [0]) (isR := []) rfl rfl (by decide)) (hK.sub (tys' := [(cI, .int)]) [0] rfl)) rfl rfl hl.1 rfl (lv_room (Nat.le_of_ble_eq_true rfl)) dX6_convolved_45 ⟨Nat.le_of_ble_eq_true rfl, Nat.le_of_ble_eq_true rfl⟩) hP hD hS hA [0] [] rfl rfl (by decide) (by decide) (cells' := 0) (slots' := 0) rfl rfl (fun u_45 H locs hp_45 hP hD hS => ?_)
  have hp_45 : True := hp_45
  have hP := hP.sub (ws' := [(h0, .inr (5, [.ref ae, .ref al, .ref ap, .ref az, .ref ar, .int (zI np), .ref am, .int (zI 1)]))]) [0] rfl
  have hD := hD.sub (ws' := [(h0, .inr (5, [.ref ae, .ref al, .ref ap, .ref az, .ref ar, .int (zI np), .ref am, .int (zI 1)]))]) [0] (by decide) rfl
  refine z_if_eq (tgt := 63) hx hb dX6_convolved_48 (by decide) (by omega) (fun c_48 => ?_) (fun c_48 => absurd c_48 (by omega))
  refine z_iconst hx hb dX6_convolved_63 ?_
  exact z_iret hx hb hr hlocks rfl () (rfl) (trivial) hP hD hS dX6_convolved_64

set_option maxHeartbeats 4000000 in
set_option maxRecDepth 100000 in
theorem c_X6_convolved_1b (l : Launch) (D : va_G) (cI : ClassId) (h0 : Nat) (ae : Nat) (al : Nat) (ap : Nat) (az : Nat) (ar : Nat) (am : Nat) (np : Int) (th : Int) (xz : Int → Int) (i : Int) (a : Int) (b : Int) (x : Int) (ha_i : -2147483648 ≤ i ∧ i ≤ 2147483647) (ha_a : -2147483648 ≤ a ∧ a ≤ 2147483647) (ha_b : -2147483648 ≤ b ∧ b ≤ 2147483647) (ha_x : -2147483648 ≤ x ∧ x ≤ 2147483647) (hnp_ : 0 ≤ np ∧ np ≤ 8) (hi0 : 0 ≤ i ∧ i < np) (hz_ : 1 ≤ xz i ∧ xz i ≤ 64) (hb_a : ¬ (0 ≤ a ∧ a < 4)) : zC l yX6_convolved wsX6_convolved ({ frames := 2, cells := 0, slots := 0, locals := 46 } : Room) D [(cI, .int)] [(h0, .inr (5, [.ref ae, .ref al, .ref ap, .ref az, .ref ar, .int (zI np), .ref am, .int (zI th)]))] [(az, .inl (cI, 8, .inl (zA xz)))] [.ref h0, .int (zI i), .int (zI a), .int (zI b), .int (zI x)] (S := Unit) (fun u => True) (fun u => some (.int (zI 0))) (fun u => [(h0, .inr (5, [.ref ae, .ref al, .ref ap, .ref az, .ref ar, .int (zI np), .ref am, .int (zI 1)]))]) := by
  refine z_start (cc := cX6_convolved) (maxL := 6) (ret := (some .int)) (own := RX6) (by decide) rfl rfl (Nat.le_of_ble_eq_true rfl) [(0, .ref h0), (1, .int (zI i)), (2, .int (zI a)), (3, .int (zI b)), (4, .int (zI x))] rfl ?_
  intro pp ee s mm below meth cc A H ls hx hb hr hml hts hown hlocks hin hK hA hP hD hS hR0 hR hl
  have CF : CallFix pp mm cc cX6_convolved 6 s ([.ref h0, .int (zI i), .int (zI a), .int (zI b), .int (zI x)] : List Value).toArray wsX6_convolved RX6 := ⟨hx, hb, hml, hown, hts⟩
  have hi6 : ∀ w ∈ wsX60, w ∈ wsX6_convolved := by decide +kernel
  refine lv_aload_n hx hb dX6_convolved_0 rfl (lv_at hl 0 rfl) ?_
  refine lv_iload_n hx hb dX6_convolved_1 rfl (lv_at hl 1 rfl) ?_
  have hRc := z_subR (ws := [(h0, .inr (5, [.ref ae, .ref al, .ref ap, .ref az, .ref ar, .int (zI np), .ref am, .int (zI th)]))]) (rs := [(az, .inl (cI, 8, .inl (zA xz)))]) (rc := [(h0, .inr (5, [.ref ae, .ref al, .ref ap, .ref az, .ref ar, .int (zI np), .ref am, .int (zI th)]))]) hP hR (isR := [0]) rfl
  refine z_ro (ws := [(h0, .inr (5, [.ref ae, .ref al, .ref ap, .ref az, .ref ar, .int (zI np), .ref am, .int (zI th)]))]) (va_runV (As := [.int (zI i)]) (rest := []) CF (c_X6_isPlan l D h0 ae al ap az ar am np th i (by omega) (by omega) H.size) (cwV 1 hts gX6_convolved_X6_isPlan rfl rfl rfl (by decide +kernel) ⟨Nat.le_of_ble_eq_true rfl, Nat.le_of_ble_eq_true rfl⟩) (z_preV (va_recv hK hP (ci := 5) (q0 := 0) rfl rfl) z_nilP (z_nilD (A := A)) hRc z_noX (hK.sub (tys' := []) [] rfl)) rfl rfl hl.1 rfl (lv_room (Nat.le_of_ble_eq_true rfl)) dX6_convolved_2 ⟨Nat.le_of_ble_eq_true rfl, Nat.le_of_ble_eq_true rfl⟩) hP hS hA (cells' := 0) (slots' := 0) rfl rfl (fun H locs hP hS => ?_)
  have hR := hR0.at hS
  refine z_ifB_eq (tgt := 28) hx hb dX6_convolved_5 (by decide) (fun c_5 => absurd c_5 (by omega)) (fun c_5 => ?_)
  refine lv_iload hx hb dX6_convolved_8 (lv_at hl 4 rfl) ?_
  refine z_if_lt (tgt := 28) hx hb dX6_convolved_10 (by decide) (by omega) (fun c_10 => ?_) (fun c_10 => ?_)
  · refine z_iconst hx hb dX6_convolved_28 ?_
    refine lv_istore (lv' := [(5, .int (zI 0)), (0, .ref h0), (1, .int (zI i)), (2, .int (zI a)), (3, .int (zI b)), (4, .int (zI x))]) hx hb dX6_convolved_29 hl (by decide) rfl (fun ls hl => ?_)
    have hl := lv_sub hl [1, 2, 3, 4, 5, 0] rfl
    have hl : lv_has ls 6 [(0, .ref h0), (1, .int (zI i)), (2, .int (zI a)), (3, .int (zI b)), (4, .int (zI x)), (5, .int (zI 0))] := hl
    refine lv_aload_n hx hb dX6_convolved_31 rfl (lv_at hl 0 rfl) ?_
    refine lv_iload_n hx hb dX6_convolved_32 rfl (lv_at hl 1 rfl) ?_
    refine lv_iload_n hx hb dX6_convolved_33 rfl (lv_at hl 2 rfl) ?_
    refine lv_iload_n hx hb dX6_convolved_34 rfl (lv_at hl 3 rfl) ?_
    refine lv_iload hx hb dX6_convolved_35 (lv_at hl 5 rfl) ?_
    refine z_if_eq (tgt := 44) hx hb dX6_convolved_37 (by decide) (by omega) (fun c_37 => ?_) (fun c_37 => absurd c_37 (by omega))
    refine z_iconst hx hb dX6_convolved_44 ?_
    have hRc : va_P D vwCl [] H := z_nilP
    have hPc := hP.sub (ws' := [(h0, .inr (5, [.ref ae, .ref al, .ref ap, .ref az, .ref ar, .int (zI np), .ref am, .int (zI th)]))]) [0] rfl
    have hDc := hD.sub (ws' := [(h0, .inr (5, [.ref ae, .ref al, .ref ap, .ref az, .ref ar, .int (zI np), .ref am, .int (zI th)]))]) [0] (by decide) rfl
    refine z_mu (ws := [(h0, .inr (5, [.ref ae, .ref al, .ref ap, .ref az, .ref ar, .int (zI np), .ref am, .int (zI th)]))]) (wc := [(h0, .inr (5, [.ref ae, .ref al, .ref ap, .ref az, .ref ar, .int (zI np), .ref am, .int (zI th)]))]) (wr := []) (va_runV (As := [.int (zI i), .int (zI a), .int (zI b), .int (zI (-1))]) (rest := []) CF (c_X6_areRight_1b l D cI h0 ae al ap az ar am np th i a b (-1) (by omega) (by omega) (by omega) (by omega) (by omega) (by omega) (by omega) H.size) (cwV 4 hts gX6_convolved_X6_areRight rfl rfl rfl (by decide +kernel) ⟨Nat.le_of_ble_eq_true rfl, Nat.le_of_ble_eq_true rfl⟩) (z_preV (va_recv hK hP (ci := 5) (q0 := 0) rfl rfl) hPc hDc hRc (z_dis (ws := [(h0, .inr (5, [.ref ae, .ref al, .ref ap, .ref az, .ref ar, .int (zI np), .ref am, .int (zI th)]))]) (rs := [(az, .inl (cI, 8, .inl (zA xz)))]) (wc := [(h0, .inr (5, [.ref ae, .ref al, .ref ap, .ref az, .ref ar, .int (zI np), .ref am, .int (zI th)]))]) (rc := []) hD hR0 (isC := [0]) (isR := []) rfl rfl (by decide)) (hK.sub (tys' := [(cI, .int)]) [0] rfl)) rfl rfl hl.1 rfl (lv_room (Nat.le_of_ble_eq_true rfl)) dX6_convolved_45 ⟨Nat.le_of_ble_eq_true rfl, Nat.le_of_ble_eq_true rfl⟩) hP hD hS hA [0] [] rfl rfl (by decide) (by decide) (cells' := 0) (slots' := 0) rfl rfl (fun u_45 H locs hp_45 hP hD hS => ?_)
    have hp_45 : True := hp_45
    have hP := hP.sub (ws' := [(h0, .inr (5, [.ref ae, .ref al, .ref ap, .ref az, .ref ar, .int (zI np), .ref am, .int (zI 1)]))]) [0] rfl
    have hD := hD.sub (ws' := [(h0, .inr (5, [.ref ae, .ref al, .ref ap, .ref az, .ref ar, .int (zI np), .ref am, .int (zI 1)]))]) [0] (by decide) rfl
    have hR := hR0.at hS
    refine z_if_eq (tgt := 63) hx hb dX6_convolved_48 (by decide) (by omega) (fun c_48 => ?_) (fun c_48 => absurd c_48 (by omega))
    refine z_iconst hx hb dX6_convolved_63 ?_
    exact z_iret hx hb hr hlocks rfl () (rfl) (trivial) hP hD hS dX6_convolved_64
  · refine lv_iload hx hb dX6_convolved_13 (lv_at hl 4 rfl) ?_
    refine lv_aload_n hx hb dX6_convolved_15 rfl (lv_at hl 0 rfl) ?_
    refine va_get (D := D) (ci := 5) (C := RX6) (T := TX6) (N := 8) hx hb hts hi6 hown hK hP 0 rfl rfl 3 (by decide) (hts (.fieldLink RX6 19 "ButterflyYardModel" "sizes" "[I") (by decide +kernel)) (fun _ h9 => h9) rfl dX6_convolved_16 ?_
    refine lv_iload_n hx hb dX6_convolved_19 rfl (lv_at hl 1 rfl) ?_
    refine z_iald (cA := cI) (n := 8) (g := xz) hx hb hK hR 0 0 rfl rfl rfl (by omega) dX6_convolved_20 ?_
    refine z_icmp_ge (tgt := 28) hx hb dX6_convolved_21 (by decide) (by omega) (fun c_21 => ?_) (fun c_21 => ?_)
    · refine z_iconst hx hb dX6_convolved_28 ?_
      refine lv_istore (lv' := [(5, .int (zI 0)), (0, .ref h0), (1, .int (zI i)), (2, .int (zI a)), (3, .int (zI b)), (4, .int (zI x))]) hx hb dX6_convolved_29 hl (by decide) rfl (fun ls hl => ?_)
      have hl := lv_sub hl [1, 2, 3, 4, 5, 0] rfl
      have hl : lv_has ls 6 [(0, .ref h0), (1, .int (zI i)), (2, .int (zI a)), (3, .int (zI b)), (4, .int (zI x)), (5, .int (zI 0))] := hl
      refine lv_aload_n hx hb dX6_convolved_31 rfl (lv_at hl 0 rfl) ?_
      refine lv_iload_n hx hb dX6_convolved_32 rfl (lv_at hl 1 rfl) ?_
      refine lv_iload_n hx hb dX6_convolved_33 rfl (lv_at hl 2 rfl) ?_
      refine lv_iload_n hx hb dX6_convolved_34 rfl (lv_at hl 3 rfl) ?_
      refine lv_iload hx hb dX6_convolved_35 (lv_at hl 5 rfl) ?_
      refine z_if_eq (tgt := 44) hx hb dX6_convolved_37 (by decide) (by omega) (fun c_37 => ?_) (fun c_37 => absurd c_37 (by omega))
      refine z_iconst hx hb dX6_convolved_44 ?_
      have hRc : va_P D vwCl [] H := z_nilP
      have hPc := hP.sub (ws' := [(h0, .inr (5, [.ref ae, .ref al, .ref ap, .ref az, .ref ar, .int (zI np), .ref am, .int (zI th)]))]) [0] rfl
      have hDc := hD.sub (ws' := [(h0, .inr (5, [.ref ae, .ref al, .ref ap, .ref az, .ref ar, .int (zI np), .ref am, .int (zI th)]))]) [0] (by decide) rfl
      refine z_mu (ws := [(h0, .inr (5, [.ref ae, .ref al, .ref ap, .ref az, .ref ar, .int (zI np), .ref am, .int (zI th)]))]) (wc := [(h0, .inr (5, [.ref ae, .ref al, .ref ap, .ref az, .ref ar, .int (zI np), .ref am, .int (zI th)]))]) (wr := []) (va_runV (As := [.int (zI i), .int (zI a), .int (zI b), .int (zI (-1))]) (rest := []) CF (c_X6_areRight_1b l D cI h0 ae al ap az ar am np th i a b (-1) (by omega) (by omega) (by omega) (by omega) (by omega) (by omega) (by omega) H.size) (cwV 4 hts gX6_convolved_X6_areRight rfl rfl rfl (by decide +kernel) ⟨Nat.le_of_ble_eq_true rfl, Nat.le_of_ble_eq_true rfl⟩) (z_preV (va_recv hK hP (ci := 5) (q0 := 0) rfl rfl) hPc hDc hRc (z_dis (ws := [(h0, .inr (5, [.ref ae, .ref al, .ref ap, .ref az, .ref ar, .int (zI np), .ref am, .int (zI th)]))]) (rs := [(az, .inl (cI, 8, .inl (zA xz)))]) (wc := [(h0, .inr (5, [.ref ae, .ref al, .ref ap, .ref az, .ref ar, .int (zI np), .ref am, .int (zI th)]))]) (rc := []) hD hR0 (isC := [0]) (isR := []) rfl rfl (by decide)) (hK.sub (tys' := [(cI, .int)]) [0] rfl)) rfl rfl hl.1 rfl (lv_room (Nat.le_of_ble_eq_true rfl)) dX6_convolved_45 ⟨Nat.le_of_ble_eq_true rfl, Nat.le_of_ble_eq_true rfl⟩) hP hD hS hA [0] [] rfl rfl (by decide) (by decide) (cells' := 0) (slots' := 0) rfl rfl (fun u_45 H locs hp_45 hP hD hS => ?_)
      have hp_45 : True := hp_45
      have hP := hP.sub (ws' := [(h0, .inr (5, [.ref ae, .ref al, .ref ap, .ref az, .ref ar, .int (zI np), .ref am, .int (zI 1)]))]) [0] rfl
      have hD := hD.sub (ws' := [(h0, .inr (5, [.ref ae, .ref al, .ref ap, .ref az, .ref ar, .int (zI np), .ref am, .int (zI 1)]))]) [0] (by decide) rfl
      have hR := hR0.at hS
      refine z_if_eq (tgt := 63) hx hb dX6_convolved_48 (by decide) (by omega) (fun c_48 => ?_) (fun c_48 => absurd c_48 (by omega))
      refine z_iconst hx hb dX6_convolved_63 ?_
      exact z_iret hx hb hr hlocks rfl () (rfl) (trivial) hP hD hS dX6_convolved_64
    · refine z_iconst hx hb dX6_convolved_24 ?_
      refine lv_goto (tgt := 29) hx hb dX6_convolved_25 (by decide) ?_
      refine lv_istore (lv' := [(5, .int (zI 1)), (0, .ref h0), (1, .int (zI i)), (2, .int (zI a)), (3, .int (zI b)), (4, .int (zI x))]) hx hb dX6_convolved_29 hl (by decide) rfl (fun ls hl => ?_)
      have hl := lv_sub hl [1, 2, 3, 4, 5, 0] rfl
      have hl : lv_has ls 6 [(0, .ref h0), (1, .int (zI i)), (2, .int (zI a)), (3, .int (zI b)), (4, .int (zI x)), (5, .int (zI 1))] := hl
      refine lv_aload_n hx hb dX6_convolved_31 rfl (lv_at hl 0 rfl) ?_
      refine lv_iload_n hx hb dX6_convolved_32 rfl (lv_at hl 1 rfl) ?_
      refine lv_iload_n hx hb dX6_convolved_33 rfl (lv_at hl 2 rfl) ?_
      refine lv_iload_n hx hb dX6_convolved_34 rfl (lv_at hl 3 rfl) ?_
      refine lv_iload hx hb dX6_convolved_35 (lv_at hl 5 rfl) ?_
      refine z_if_eq (tgt := 44) hx hb dX6_convolved_37 (by decide) (by omega) (fun c_37 => absurd c_37 (by omega)) (fun c_37 => ?_)
      refine z_iconst hx hb dX6_convolved_40 ?_
      refine lv_goto (tgt := 45) hx hb dX6_convolved_41 (by decide) ?_
      have hRc : va_P D vwCl [] H := z_nilP
      have hPc := hP.sub (ws' := [(h0, .inr (5, [.ref ae, .ref al, .ref ap, .ref az, .ref ar, .int (zI np), .ref am, .int (zI th)]))]) [0] rfl
      have hDc := hD.sub (ws' := [(h0, .inr (5, [.ref ae, .ref al, .ref ap, .ref az, .ref ar, .int (zI np), .ref am, .int (zI th)]))]) [0] (by decide) rfl
      refine z_mu (ws := [(h0, .inr (5, [.ref ae, .ref al, .ref ap, .ref az, .ref ar, .int (zI np), .ref am, .int (zI th)]))]) (wc := [(h0, .inr (5, [.ref ae, .ref al, .ref ap, .ref az, .ref ar, .int (zI np), .ref am, .int (zI th)]))]) (wr := []) (va_runV (As := [.int (zI i), .int (zI a), .int (zI b), .int (zI 0)]) (rest := []) CF (c_X6_areRight_1b l D cI h0 ae al ap az ar am np th i a b 0 (by omega) (by omega) (by omega) (by omega) (by omega) (by omega) (by omega) H.size) (cwV 4 hts gX6_convolved_X6_areRight rfl rfl rfl (by decide +kernel) ⟨Nat.le_of_ble_eq_true rfl, Nat.le_of_ble_eq_true rfl⟩) (z_preV (va_recv hK hP (ci := 5) (q0 := 0) rfl rfl) hPc hDc hRc (z_dis (ws := [(h0, .inr (5, [.ref ae, .ref al, .ref ap, .ref az, .ref ar, .int (zI np), .ref am, .int (zI th)]))]) (rs := [(az, .inl (cI, 8, .inl (zA xz)))]) (wc := [(h0, .inr (5, [.ref ae, .ref al, .ref ap, .ref az, .ref ar, .int (zI np), .ref am, .int (zI th)]))]) (rc := []) hD hR0 (isC := [0]) (isR := []) rfl rfl (by decide)) (hK.sub (tys' := [(cI, .int)]) [0] rfl)) rfl rfl hl.1 rfl (lv_room (Nat.le_of_ble_eq_true rfl)) dX6_convolved_45 ⟨Nat.le_of_ble_eq_true rfl, Nat.le_of_ble_eq_true rfl⟩) hP hD hS hA [0] [] rfl rfl (by decide) (by decide) (cells' := 0) (slots' := 0) rfl rfl (fun u_45 H locs hp_45 hP hD hS => ?_)
      have hp_45 : True := hp_45
      have hP := hP.sub (ws' := [(h0, .inr (5, [.ref ae, .ref al, .ref ap, .ref az, .ref ar, .int (zI np), .ref am, .int (zI 1)]))]) [0] rfl
      have hD := hD.sub (ws' := [(h0, .inr (5, [.ref ae, .ref al, .ref ap, .ref az, .ref ar, .int (zI np), .ref am, .int (zI 1)]))]) [0] (by decide) rfl
      have hR := hR0.at hS
      refine z_if_eq (tgt := 63) hx hb dX6_convolved_48 (by decide) (by omega) (fun c_48 => ?_) (fun c_48 => absurd c_48 (by omega))
      refine z_iconst hx hb dX6_convolved_63 ?_
      exact z_iret hx hb hr hlocks rfl () (rfl) (trivial) hP hD hS dX6_convolved_64

set_option maxHeartbeats 4000000 in
set_option maxRecDepth 100000 in
theorem c_X6_convolved_1c (l : Launch) (D : va_G) (cI : ClassId) (h0 : Nat) (ae : Nat) (al : Nat) (ap : Nat) (az : Nat) (ar : Nat) (am : Nat) (np : Int) (th : Int) (xz : Int → Int) (i : Int) (a : Int) (b : Int) (x : Int) (ha_i : -2147483648 ≤ i ∧ i ≤ 2147483647) (ha_a : -2147483648 ≤ a ∧ a ≤ 2147483647) (ha_b : -2147483648 ≤ b ∧ b ≤ 2147483647) (ha_x : -2147483648 ≤ x ∧ x ≤ 2147483647) (hnp_ : 0 ≤ np ∧ np ≤ 8) (hi0 : 0 ≤ i ∧ i < np) (hz_ : 1 ≤ xz i ∧ xz i ≤ 64) (hr_a : 0 ≤ a ∧ a < 4) (hb_b : ¬ (0 ≤ b ∧ b < 4)) : zC l yX6_convolved wsX6_convolved ({ frames := 2, cells := 0, slots := 0, locals := 46 } : Room) D [(cI, .int)] [(h0, .inr (5, [.ref ae, .ref al, .ref ap, .ref az, .ref ar, .int (zI np), .ref am, .int (zI th)]))] [(az, .inl (cI, 8, .inl (zA xz)))] [.ref h0, .int (zI i), .int (zI a), .int (zI b), .int (zI x)] (S := Unit) (fun u => True) (fun u => some (.int (zI 0))) (fun u => [(h0, .inr (5, [.ref ae, .ref al, .ref ap, .ref az, .ref ar, .int (zI np), .ref am, .int (zI 1)]))]) := by
  refine z_start (cc := cX6_convolved) (maxL := 6) (ret := (some .int)) (own := RX6) (by decide) rfl rfl (Nat.le_of_ble_eq_true rfl) [(0, .ref h0), (1, .int (zI i)), (2, .int (zI a)), (3, .int (zI b)), (4, .int (zI x))] rfl ?_
  intro pp ee s mm below meth cc A H ls hx hb hr hml hts hown hlocks hin hK hA hP hD hS hR0 hR hl
  have CF : CallFix pp mm cc cX6_convolved 6 s ([.ref h0, .int (zI i), .int (zI a), .int (zI b), .int (zI x)] : List Value).toArray wsX6_convolved RX6 := ⟨hx, hb, hml, hown, hts⟩
  have hi6 : ∀ w ∈ wsX60, w ∈ wsX6_convolved := by decide +kernel
  refine lv_aload_n hx hb dX6_convolved_0 rfl (lv_at hl 0 rfl) ?_
  refine lv_iload_n hx hb dX6_convolved_1 rfl (lv_at hl 1 rfl) ?_
  have hRc := z_subR (ws := [(h0, .inr (5, [.ref ae, .ref al, .ref ap, .ref az, .ref ar, .int (zI np), .ref am, .int (zI th)]))]) (rs := [(az, .inl (cI, 8, .inl (zA xz)))]) (rc := [(h0, .inr (5, [.ref ae, .ref al, .ref ap, .ref az, .ref ar, .int (zI np), .ref am, .int (zI th)]))]) hP hR (isR := [0]) rfl
  refine z_ro (ws := [(h0, .inr (5, [.ref ae, .ref al, .ref ap, .ref az, .ref ar, .int (zI np), .ref am, .int (zI th)]))]) (va_runV (As := [.int (zI i)]) (rest := []) CF (c_X6_isPlan l D h0 ae al ap az ar am np th i (by omega) (by omega) H.size) (cwV 1 hts gX6_convolved_X6_isPlan rfl rfl rfl (by decide +kernel) ⟨Nat.le_of_ble_eq_true rfl, Nat.le_of_ble_eq_true rfl⟩) (z_preV (va_recv hK hP (ci := 5) (q0 := 0) rfl rfl) z_nilP (z_nilD (A := A)) hRc z_noX (hK.sub (tys' := []) [] rfl)) rfl rfl hl.1 rfl (lv_room (Nat.le_of_ble_eq_true rfl)) dX6_convolved_2 ⟨Nat.le_of_ble_eq_true rfl, Nat.le_of_ble_eq_true rfl⟩) hP hS hA (cells' := 0) (slots' := 0) rfl rfl (fun H locs hP hS => ?_)
  have hR := hR0.at hS
  refine z_ifB_eq (tgt := 28) hx hb dX6_convolved_5 (by decide) (fun c_5 => absurd c_5 (by omega)) (fun c_5 => ?_)
  refine lv_iload hx hb dX6_convolved_8 (lv_at hl 4 rfl) ?_
  refine z_if_lt (tgt := 28) hx hb dX6_convolved_10 (by decide) (by omega) (fun c_10 => ?_) (fun c_10 => ?_)
  · refine z_iconst hx hb dX6_convolved_28 ?_
    refine lv_istore (lv' := [(5, .int (zI 0)), (0, .ref h0), (1, .int (zI i)), (2, .int (zI a)), (3, .int (zI b)), (4, .int (zI x))]) hx hb dX6_convolved_29 hl (by decide) rfl (fun ls hl => ?_)
    have hl := lv_sub hl [1, 2, 3, 4, 5, 0] rfl
    have hl : lv_has ls 6 [(0, .ref h0), (1, .int (zI i)), (2, .int (zI a)), (3, .int (zI b)), (4, .int (zI x)), (5, .int (zI 0))] := hl
    refine lv_aload_n hx hb dX6_convolved_31 rfl (lv_at hl 0 rfl) ?_
    refine lv_iload_n hx hb dX6_convolved_32 rfl (lv_at hl 1 rfl) ?_
    refine lv_iload_n hx hb dX6_convolved_33 rfl (lv_at hl 2 rfl) ?_
    refine lv_iload_n hx hb dX6_convolved_34 rfl (lv_at hl 3 rfl) ?_
    refine lv_iload hx hb dX6_convolved_35 (lv_at hl 5 rfl) ?_
    refine z_if_eq (tgt := 44) hx hb dX6_convolved_37 (by decide) (by omega) (fun c_37 => ?_) (fun c_37 => absurd c_37 (by omega))
    refine z_iconst hx hb dX6_convolved_44 ?_
    have hRc : va_P D vwCl [] H := z_nilP
    have hPc := hP.sub (ws' := [(h0, .inr (5, [.ref ae, .ref al, .ref ap, .ref az, .ref ar, .int (zI np), .ref am, .int (zI th)]))]) [0] rfl
    have hDc := hD.sub (ws' := [(h0, .inr (5, [.ref ae, .ref al, .ref ap, .ref az, .ref ar, .int (zI np), .ref am, .int (zI th)]))]) [0] (by decide) rfl
    refine z_mu (ws := [(h0, .inr (5, [.ref ae, .ref al, .ref ap, .ref az, .ref ar, .int (zI np), .ref am, .int (zI th)]))]) (wc := [(h0, .inr (5, [.ref ae, .ref al, .ref ap, .ref az, .ref ar, .int (zI np), .ref am, .int (zI th)]))]) (wr := []) (va_runV (As := [.int (zI i), .int (zI a), .int (zI b), .int (zI (-1))]) (rest := []) CF (c_X6_areRight_1c l D cI h0 ae al ap az ar am np th i a b (-1) (by omega) (by omega) (by omega) (by omega) (by omega) (by omega) (by omega) (by omega) H.size) (cwV 4 hts gX6_convolved_X6_areRight rfl rfl rfl (by decide +kernel) ⟨Nat.le_of_ble_eq_true rfl, Nat.le_of_ble_eq_true rfl⟩) (z_preV (va_recv hK hP (ci := 5) (q0 := 0) rfl rfl) hPc hDc hRc (z_dis (ws := [(h0, .inr (5, [.ref ae, .ref al, .ref ap, .ref az, .ref ar, .int (zI np), .ref am, .int (zI th)]))]) (rs := [(az, .inl (cI, 8, .inl (zA xz)))]) (wc := [(h0, .inr (5, [.ref ae, .ref al, .ref ap, .ref az, .ref ar, .int (zI np), .ref am, .int (zI th)]))]) (rc := []) hD hR0 (isC := [0]) (isR := []) rfl rfl (by decide)) (hK.sub (tys' := [(cI, .int)]) [0] rfl)) rfl rfl hl.1 rfl (lv_room (Nat.le_of_ble_eq_true rfl)) dX6_convolved_45 ⟨Nat.le_of_ble_eq_true rfl, Nat.le_of_ble_eq_true rfl⟩) hP hD hS hA [0] [] rfl rfl (by decide) (by decide) (cells' := 0) (slots' := 0) rfl rfl (fun u_45 H locs hp_45 hP hD hS => ?_)
    have hp_45 : True := hp_45
    have hP := hP.sub (ws' := [(h0, .inr (5, [.ref ae, .ref al, .ref ap, .ref az, .ref ar, .int (zI np), .ref am, .int (zI 1)]))]) [0] rfl
    have hD := hD.sub (ws' := [(h0, .inr (5, [.ref ae, .ref al, .ref ap, .ref az, .ref ar, .int (zI np), .ref am, .int (zI 1)]))]) [0] (by decide) rfl
    have hR := hR0.at hS
    refine z_if_eq (tgt := 63) hx hb dX6_convolved_48 (by decide) (by omega) (fun c_48 => ?_) (fun c_48 => absurd c_48 (by omega))
    refine z_iconst hx hb dX6_convolved_63 ?_
    exact z_iret hx hb hr hlocks rfl () (rfl) (trivial) hP hD hS dX6_convolved_64
  · refine lv_iload hx hb dX6_convolved_13 (lv_at hl 4 rfl) ?_
    refine lv_aload_n hx hb dX6_convolved_15 rfl (lv_at hl 0 rfl) ?_
    refine va_get (D := D) (ci := 5) (C := RX6) (T := TX6) (N := 8) hx hb hts hi6 hown hK hP 0 rfl rfl 3 (by decide) (hts (.fieldLink RX6 19 "ButterflyYardModel" "sizes" "[I") (by decide +kernel)) (fun _ h9 => h9) rfl dX6_convolved_16 ?_
    refine lv_iload_n hx hb dX6_convolved_19 rfl (lv_at hl 1 rfl) ?_
    refine z_iald (cA := cI) (n := 8) (g := xz) hx hb hK hR 0 0 rfl rfl rfl (by omega) dX6_convolved_20 ?_
    refine z_icmp_ge (tgt := 28) hx hb dX6_convolved_21 (by decide) (by omega) (fun c_21 => ?_) (fun c_21 => ?_)
    · refine z_iconst hx hb dX6_convolved_28 ?_
      refine lv_istore (lv' := [(5, .int (zI 0)), (0, .ref h0), (1, .int (zI i)), (2, .int (zI a)), (3, .int (zI b)), (4, .int (zI x))]) hx hb dX6_convolved_29 hl (by decide) rfl (fun ls hl => ?_)
      have hl := lv_sub hl [1, 2, 3, 4, 5, 0] rfl
      have hl : lv_has ls 6 [(0, .ref h0), (1, .int (zI i)), (2, .int (zI a)), (3, .int (zI b)), (4, .int (zI x)), (5, .int (zI 0))] := hl
      refine lv_aload_n hx hb dX6_convolved_31 rfl (lv_at hl 0 rfl) ?_
      refine lv_iload_n hx hb dX6_convolved_32 rfl (lv_at hl 1 rfl) ?_
      refine lv_iload_n hx hb dX6_convolved_33 rfl (lv_at hl 2 rfl) ?_
      refine lv_iload_n hx hb dX6_convolved_34 rfl (lv_at hl 3 rfl) ?_
      refine lv_iload hx hb dX6_convolved_35 (lv_at hl 5 rfl) ?_
      refine z_if_eq (tgt := 44) hx hb dX6_convolved_37 (by decide) (by omega) (fun c_37 => ?_) (fun c_37 => absurd c_37 (by omega))
      refine z_iconst hx hb dX6_convolved_44 ?_
      have hRc : va_P D vwCl [] H := z_nilP
      have hPc := hP.sub (ws' := [(h0, .inr (5, [.ref ae, .ref al, .ref ap, .ref az, .ref ar, .int (zI np), .ref am, .int (zI th)]))]) [0] rfl
      have hDc := hD.sub (ws' := [(h0, .inr (5, [.ref ae, .ref al, .ref ap, .ref az, .ref ar, .int (zI np), .ref am, .int (zI th)]))]) [0] (by decide) rfl
      refine z_mu (ws := [(h0, .inr (5, [.ref ae, .ref al, .ref ap, .ref az, .ref ar, .int (zI np), .ref am, .int (zI th)]))]) (wc := [(h0, .inr (5, [.ref ae, .ref al, .ref ap, .ref az, .ref ar, .int (zI np), .ref am, .int (zI th)]))]) (wr := []) (va_runV (As := [.int (zI i), .int (zI a), .int (zI b), .int (zI (-1))]) (rest := []) CF (c_X6_areRight_1c l D cI h0 ae al ap az ar am np th i a b (-1) (by omega) (by omega) (by omega) (by omega) (by omega) (by omega) (by omega) (by omega) H.size) (cwV 4 hts gX6_convolved_X6_areRight rfl rfl rfl (by decide +kernel) ⟨Nat.le_of_ble_eq_true rfl, Nat.le_of_ble_eq_true rfl⟩) (z_preV (va_recv hK hP (ci := 5) (q0 := 0) rfl rfl) hPc hDc hRc (z_dis (ws := [(h0, .inr (5, [.ref ae, .ref al, .ref ap, .ref az, .ref ar, .int (zI np), .ref am, .int (zI th)]))]) (rs := [(az, .inl (cI, 8, .inl (zA xz)))]) (wc := [(h0, .inr (5, [.ref ae, .ref al, .ref ap, .ref az, .ref ar, .int (zI np), .ref am, .int (zI th)]))]) (rc := []) hD hR0 (isC := [0]) (isR := []) rfl rfl (by decide)) (hK.sub (tys' := [(cI, .int)]) [0] rfl)) rfl rfl hl.1 rfl (lv_room (Nat.le_of_ble_eq_true rfl)) dX6_convolved_45 ⟨Nat.le_of_ble_eq_true rfl, Nat.le_of_ble_eq_true rfl⟩) hP hD hS hA [0] [] rfl rfl (by decide) (by decide) (cells' := 0) (slots' := 0) rfl rfl (fun u_45 H locs hp_45 hP hD hS => ?_)
      have hp_45 : True := hp_45
      have hP := hP.sub (ws' := [(h0, .inr (5, [.ref ae, .ref al, .ref ap, .ref az, .ref ar, .int (zI np), .ref am, .int (zI 1)]))]) [0] rfl
      have hD := hD.sub (ws' := [(h0, .inr (5, [.ref ae, .ref al, .ref ap, .ref az, .ref ar, .int (zI np), .ref am, .int (zI 1)]))]) [0] (by decide) rfl
      have hR := hR0.at hS
      refine z_if_eq (tgt := 63) hx hb dX6_convolved_48 (by decide) (by omega) (fun c_48 => ?_) (fun c_48 => absurd c_48 (by omega))
      refine z_iconst hx hb dX6_convolved_63 ?_
      exact z_iret hx hb hr hlocks rfl () (rfl) (trivial) hP hD hS dX6_convolved_64
    · refine z_iconst hx hb dX6_convolved_24 ?_
      refine lv_goto (tgt := 29) hx hb dX6_convolved_25 (by decide) ?_
      refine lv_istore (lv' := [(5, .int (zI 1)), (0, .ref h0), (1, .int (zI i)), (2, .int (zI a)), (3, .int (zI b)), (4, .int (zI x))]) hx hb dX6_convolved_29 hl (by decide) rfl (fun ls hl => ?_)
      have hl := lv_sub hl [1, 2, 3, 4, 5, 0] rfl
      have hl : lv_has ls 6 [(0, .ref h0), (1, .int (zI i)), (2, .int (zI a)), (3, .int (zI b)), (4, .int (zI x)), (5, .int (zI 1))] := hl
      refine lv_aload_n hx hb dX6_convolved_31 rfl (lv_at hl 0 rfl) ?_
      refine lv_iload_n hx hb dX6_convolved_32 rfl (lv_at hl 1 rfl) ?_
      refine lv_iload_n hx hb dX6_convolved_33 rfl (lv_at hl 2 rfl) ?_
      refine lv_iload_n hx hb dX6_convolved_34 rfl (lv_at hl 3 rfl) ?_
      refine lv_iload hx hb dX6_convolved_35 (lv_at hl 5 rfl) ?_
      refine z_if_eq (tgt := 44) hx hb dX6_convolved_37 (by decide) (by omega) (fun c_37 => absurd c_37 (by omega)) (fun c_37 => ?_)
      refine z_iconst hx hb dX6_convolved_40 ?_
      refine lv_goto (tgt := 45) hx hb dX6_convolved_41 (by decide) ?_
      have hRc : va_P D vwCl [] H := z_nilP
      have hPc := hP.sub (ws' := [(h0, .inr (5, [.ref ae, .ref al, .ref ap, .ref az, .ref ar, .int (zI np), .ref am, .int (zI th)]))]) [0] rfl
      have hDc := hD.sub (ws' := [(h0, .inr (5, [.ref ae, .ref al, .ref ap, .ref az, .ref ar, .int (zI np), .ref am, .int (zI th)]))]) [0] (by decide) rfl
      refine z_mu (ws := [(h0, .inr (5, [.ref ae, .ref al, .ref ap, .ref az, .ref ar, .int (zI np), .ref am, .int (zI th)]))]) (wc := [(h0, .inr (5, [.ref ae, .ref al, .ref ap, .ref az, .ref ar, .int (zI np), .ref am, .int (zI th)]))]) (wr := []) (va_runV (As := [.int (zI i), .int (zI a), .int (zI b), .int (zI 0)]) (rest := []) CF (c_X6_areRight_1c l D cI h0 ae al ap az ar am np th i a b 0 (by omega) (by omega) (by omega) (by omega) (by omega) (by omega) (by omega) (by omega) H.size) (cwV 4 hts gX6_convolved_X6_areRight rfl rfl rfl (by decide +kernel) ⟨Nat.le_of_ble_eq_true rfl, Nat.le_of_ble_eq_true rfl⟩) (z_preV (va_recv hK hP (ci := 5) (q0 := 0) rfl rfl) hPc hDc hRc (z_dis (ws := [(h0, .inr (5, [.ref ae, .ref al, .ref ap, .ref az, .ref ar, .int (zI np), .ref am, .int (zI th)]))]) (rs := [(az, .inl (cI, 8, .inl (zA xz)))]) (wc := [(h0, .inr (5, [.ref ae, .ref al, .ref ap, .ref az, .ref ar, .int (zI np), .ref am, .int (zI th)]))]) (rc := []) hD hR0 (isC := [0]) (isR := []) rfl rfl (by decide)) (hK.sub (tys' := [(cI, .int)]) [0] rfl)) rfl rfl hl.1 rfl (lv_room (Nat.le_of_ble_eq_true rfl)) dX6_convolved_45 ⟨Nat.le_of_ble_eq_true rfl, Nat.le_of_ble_eq_true rfl⟩) hP hD hS hA [0] [] rfl rfl (by decide) (by decide) (cells' := 0) (slots' := 0) rfl rfl (fun u_45 H locs hp_45 hP hD hS => ?_)
      have hp_45 : True := hp_45
      have hP := hP.sub (ws' := [(h0, .inr (5, [.ref ae, .ref al, .ref ap, .ref az, .ref ar, .int (zI np), .ref am, .int (zI 1)]))]) [0] rfl
      have hD := hD.sub (ws' := [(h0, .inr (5, [.ref ae, .ref al, .ref ap, .ref az, .ref ar, .int (zI np), .ref am, .int (zI 1)]))]) [0] (by decide) rfl
      have hR := hR0.at hS
      refine z_if_eq (tgt := 63) hx hb dX6_convolved_48 (by decide) (by omega) (fun c_48 => ?_) (fun c_48 => absurd c_48 (by omega))
      refine z_iconst hx hb dX6_convolved_63 ?_
      exact z_iret hx hb hr hlocks rfl () (rfl) (trivial) hP hD hS dX6_convolved_64

set_option maxHeartbeats 4000000 in
set_option maxRecDepth 100000 in
theorem c_X6_convolved_1x (l : Launch) (D : va_G) (cI : ClassId) (h0 : Nat) (ae : Nat) (al : Nat) (ap : Nat) (az : Nat) (ar : Nat) (am : Nat) (np : Int) (th : Int) (i : Int) (a : Int) (b : Int) (x : Int) (ha_i : -2147483648 ≤ i ∧ i ≤ 2147483647) (ha_a : -2147483648 ≤ a ∧ a ≤ 2147483647) (ha_b : -2147483648 ≤ b ∧ b ≤ 2147483647) (ha_x : -2147483648 ≤ x ∧ x ≤ 2147483647) (hnp_ : 0 ≤ np ∧ np ≤ 8) (hi0 : 0 ≤ i ∧ i < np) (hr_a : 0 ≤ a ∧ a < 4) (hr_b : 0 ≤ b ∧ b < 4) (hx_ : x < 0) : zC l yX6_convolved wsX6_convolved ({ frames := 2, cells := 0, slots := 0, locals := 46 } : Room) D [(cI, .int)] [(h0, .inr (5, [.ref ae, .ref al, .ref ap, .ref az, .ref ar, .int (zI np), .ref am, .int (zI th)]))] [] [.ref h0, .int (zI i), .int (zI a), .int (zI b), .int (zI x)] (S := Unit) (fun u => True) (fun u => some (.int (zI 0))) (fun u => [(h0, .inr (5, [.ref ae, .ref al, .ref ap, .ref az, .ref ar, .int (zI np), .ref am, .int (zI 1)]))]) := by
  refine z_start (cc := cX6_convolved) (maxL := 6) (ret := (some .int)) (own := RX6) (by decide) rfl rfl (Nat.le_of_ble_eq_true rfl) [(0, .ref h0), (1, .int (zI i)), (2, .int (zI a)), (3, .int (zI b)), (4, .int (zI x))] rfl ?_
  intro pp ee s mm below meth cc A H ls hx hb hr hml hts hown hlocks hin hK hA hP hD hS hR0 hR hl
  have CF : CallFix pp mm cc cX6_convolved 6 s ([.ref h0, .int (zI i), .int (zI a), .int (zI b), .int (zI x)] : List Value).toArray wsX6_convolved RX6 := ⟨hx, hb, hml, hown, hts⟩
  refine lv_aload_n hx hb dX6_convolved_0 rfl (lv_at hl 0 rfl) ?_
  refine lv_iload_n hx hb dX6_convolved_1 rfl (lv_at hl 1 rfl) ?_
  have hRc := z_subR (ws := [(h0, .inr (5, [.ref ae, .ref al, .ref ap, .ref az, .ref ar, .int (zI np), .ref am, .int (zI th)]))]) (rs := []) (rc := [(h0, .inr (5, [.ref ae, .ref al, .ref ap, .ref az, .ref ar, .int (zI np), .ref am, .int (zI th)]))]) hP z_nilP (isR := [0]) rfl
  refine z_ro (ws := [(h0, .inr (5, [.ref ae, .ref al, .ref ap, .ref az, .ref ar, .int (zI np), .ref am, .int (zI th)]))]) (va_runV (As := [.int (zI i)]) (rest := []) CF (c_X6_isPlan l D h0 ae al ap az ar am np th i (by omega) (by omega) H.size) (cwV 1 hts gX6_convolved_X6_isPlan rfl rfl rfl (by decide +kernel) ⟨Nat.le_of_ble_eq_true rfl, Nat.le_of_ble_eq_true rfl⟩) (z_preV (va_recv hK hP (ci := 5) (q0 := 0) rfl rfl) z_nilP (z_nilD (A := A)) hRc z_noX (hK.sub (tys' := []) [] rfl)) rfl rfl hl.1 rfl (lv_room (Nat.le_of_ble_eq_true rfl)) dX6_convolved_2 ⟨Nat.le_of_ble_eq_true rfl, Nat.le_of_ble_eq_true rfl⟩) hP hS hA (cells' := 0) (slots' := 0) rfl rfl (fun H locs hP hS => ?_)
  refine z_ifB_eq (tgt := 28) hx hb dX6_convolved_5 (by decide) (fun c_5 => absurd c_5 (by omega)) (fun c_5 => ?_)
  refine lv_iload hx hb dX6_convolved_8 (lv_at hl 4 rfl) ?_
  refine z_if_lt (tgt := 28) hx hb dX6_convolved_10 (by decide) (by omega) (fun c_10 => ?_) (fun c_10 => absurd c_10 (by omega))
  refine z_iconst hx hb dX6_convolved_28 ?_
  refine lv_istore (lv' := [(5, .int (zI 0)), (0, .ref h0), (1, .int (zI i)), (2, .int (zI a)), (3, .int (zI b)), (4, .int (zI x))]) hx hb dX6_convolved_29 hl (by decide) rfl (fun ls hl => ?_)
  have hl := lv_sub hl [1, 2, 3, 4, 5, 0] rfl
  have hl : lv_has ls 6 [(0, .ref h0), (1, .int (zI i)), (2, .int (zI a)), (3, .int (zI b)), (4, .int (zI x)), (5, .int (zI 0))] := hl
  refine lv_aload_n hx hb dX6_convolved_31 rfl (lv_at hl 0 rfl) ?_
  refine lv_iload_n hx hb dX6_convolved_32 rfl (lv_at hl 1 rfl) ?_
  refine lv_iload_n hx hb dX6_convolved_33 rfl (lv_at hl 2 rfl) ?_
  refine lv_iload_n hx hb dX6_convolved_34 rfl (lv_at hl 3 rfl) ?_
  refine lv_iload hx hb dX6_convolved_35 (lv_at hl 5 rfl) ?_
  refine z_if_eq (tgt := 44) hx hb dX6_convolved_37 (by decide) (by omega) (fun c_37 => ?_) (fun c_37 => absurd c_37 (by omega))
  refine z_iconst hx hb dX6_convolved_44 ?_
  have hRc : va_P D vwCl [] H := z_nilP
  have hPc := hP.sub (ws' := [(h0, .inr (5, [.ref ae, .ref al, .ref ap, .ref az, .ref ar, .int (zI np), .ref am, .int (zI th)]))]) [0] rfl
  have hDc := hD.sub (ws' := [(h0, .inr (5, [.ref ae, .ref al, .ref ap, .ref az, .ref ar, .int (zI np), .ref am, .int (zI th)]))]) [0] (by decide) rfl
  refine z_mu (ws := [(h0, .inr (5, [.ref ae, .ref al, .ref ap, .ref az, .ref ar, .int (zI np), .ref am, .int (zI th)]))]) (wc := [(h0, .inr (5, [.ref ae, .ref al, .ref ap, .ref az, .ref ar, .int (zI np), .ref am, .int (zI th)]))]) (wr := []) (va_runV (As := [.int (zI i), .int (zI a), .int (zI b), .int (zI (-1))]) (rest := []) CF (c_X6_areRight_1m l D cI h0 ae al ap az ar am np th i a b (-1) (by omega) (by omega) (by omega) (by omega) (by omega) (by omega) (by omega) (by omega) (by omega) H.size) (cwV 4 hts gX6_convolved_X6_areRight rfl rfl rfl (by decide +kernel) ⟨Nat.le_of_ble_eq_true rfl, Nat.le_of_ble_eq_true rfl⟩) (z_preV (va_recv hK hP (ci := 5) (q0 := 0) rfl rfl) hPc hDc hRc (z_dis (ws := [(h0, .inr (5, [.ref ae, .ref al, .ref ap, .ref az, .ref ar, .int (zI np), .ref am, .int (zI th)]))]) (rs := []) (wc := [(h0, .inr (5, [.ref ae, .ref al, .ref ap, .ref az, .ref ar, .int (zI np), .ref am, .int (zI th)]))]) (rc := []) hD hR0 (isC := [0]) (isR := []) rfl rfl (by decide)) (hK.sub (tys' := [(cI, .int)]) [0] rfl)) rfl rfl hl.1 rfl (lv_room (Nat.le_of_ble_eq_true rfl)) dX6_convolved_45 ⟨Nat.le_of_ble_eq_true rfl, Nat.le_of_ble_eq_true rfl⟩) hP hD hS hA [0] [] rfl rfl (by decide) (by decide) (cells' := 0) (slots' := 0) rfl rfl (fun u_45 H locs hp_45 hP hD hS => ?_)
  have hp_45 : True := hp_45
  have hP := hP.sub (ws' := [(h0, .inr (5, [.ref ae, .ref al, .ref ap, .ref az, .ref ar, .int (zI np), .ref am, .int (zI 1)]))]) [0] rfl
  have hD := hD.sub (ws' := [(h0, .inr (5, [.ref ae, .ref al, .ref ap, .ref az, .ref ar, .int (zI np), .ref am, .int (zI 1)]))]) [0] (by decide) rfl
  refine z_if_eq (tgt := 63) hx hb dX6_convolved_48 (by decide) (by omega) (fun c_48 => ?_) (fun c_48 => absurd c_48 (by omega))
  refine z_iconst hx hb dX6_convolved_63 ?_
  exact z_iret hx hb hr hlocks rfl () (rfl) (trivial) hP hD hS dX6_convolved_64

set_option maxHeartbeats 4000000 in
set_option maxRecDepth 100000 in
theorem c_X6_convolved_1y (l : Launch) (D : va_G) (cI : ClassId) (h0 : Nat) (ae : Nat) (al : Nat) (ap : Nat) (az : Nat) (ar : Nat) (am : Nat) (np : Int) (th : Int) (xz : Int → Int) (i : Int) (a : Int) (b : Int) (x : Int) (ha_i : -2147483648 ≤ i ∧ i ≤ 2147483647) (ha_a : -2147483648 ≤ a ∧ a ≤ 2147483647) (ha_b : -2147483648 ≤ b ∧ b ≤ 2147483647) (ha_x : -2147483648 ≤ x ∧ x ≤ 2147483647) (hnp_ : 0 ≤ np ∧ np ≤ 8) (hi0 : 0 ≤ i ∧ i < np) (hz_ : 1 ≤ xz i ∧ xz i ≤ 64) (hr_a : 0 ≤ a ∧ a < 4) (hr_b : 0 ≤ b ∧ b < 4) (hx_ : xz i ≤ x) : zC l yX6_convolved wsX6_convolved ({ frames := 2, cells := 0, slots := 0, locals := 46 } : Room) D [(cI, .int)] [(h0, .inr (5, [.ref ae, .ref al, .ref ap, .ref az, .ref ar, .int (zI np), .ref am, .int (zI th)]))] [(az, .inl (cI, 8, .inl (zA xz)))] [.ref h0, .int (zI i), .int (zI a), .int (zI b), .int (zI x)] (S := Unit) (fun u => True) (fun u => some (.int (zI 0))) (fun u => [(h0, .inr (5, [.ref ae, .ref al, .ref ap, .ref az, .ref ar, .int (zI np), .ref am, .int (zI 1)]))]) := by
  refine z_start (cc := cX6_convolved) (maxL := 6) (ret := (some .int)) (own := RX6) (by decide) rfl rfl (Nat.le_of_ble_eq_true rfl) [(0, .ref h0), (1, .int (zI i)), (2, .int (zI a)), (3, .int (zI b)), (4, .int (zI x))] rfl ?_
  intro pp ee s mm below meth cc A H ls hx hb hr hml hts hown hlocks hin hK hA hP hD hS hR0 hR hl
  have CF : CallFix pp mm cc cX6_convolved 6 s ([.ref h0, .int (zI i), .int (zI a), .int (zI b), .int (zI x)] : List Value).toArray wsX6_convolved RX6 := ⟨hx, hb, hml, hown, hts⟩
  have hi6 : ∀ w ∈ wsX60, w ∈ wsX6_convolved := by decide +kernel
  refine lv_aload_n hx hb dX6_convolved_0 rfl (lv_at hl 0 rfl) ?_
  refine lv_iload_n hx hb dX6_convolved_1 rfl (lv_at hl 1 rfl) ?_
  have hRc := z_subR (ws := [(h0, .inr (5, [.ref ae, .ref al, .ref ap, .ref az, .ref ar, .int (zI np), .ref am, .int (zI th)]))]) (rs := [(az, .inl (cI, 8, .inl (zA xz)))]) (rc := [(h0, .inr (5, [.ref ae, .ref al, .ref ap, .ref az, .ref ar, .int (zI np), .ref am, .int (zI th)]))]) hP hR (isR := [0]) rfl
  refine z_ro (ws := [(h0, .inr (5, [.ref ae, .ref al, .ref ap, .ref az, .ref ar, .int (zI np), .ref am, .int (zI th)]))]) (va_runV (As := [.int (zI i)]) (rest := []) CF (c_X6_isPlan l D h0 ae al ap az ar am np th i (by omega) (by omega) H.size) (cwV 1 hts gX6_convolved_X6_isPlan rfl rfl rfl (by decide +kernel) ⟨Nat.le_of_ble_eq_true rfl, Nat.le_of_ble_eq_true rfl⟩) (z_preV (va_recv hK hP (ci := 5) (q0 := 0) rfl rfl) z_nilP (z_nilD (A := A)) hRc z_noX (hK.sub (tys' := []) [] rfl)) rfl rfl hl.1 rfl (lv_room (Nat.le_of_ble_eq_true rfl)) dX6_convolved_2 ⟨Nat.le_of_ble_eq_true rfl, Nat.le_of_ble_eq_true rfl⟩) hP hS hA (cells' := 0) (slots' := 0) rfl rfl (fun H locs hP hS => ?_)
  have hR := hR0.at hS
  refine z_ifB_eq (tgt := 28) hx hb dX6_convolved_5 (by decide) (fun c_5 => absurd c_5 (by omega)) (fun c_5 => ?_)
  refine lv_iload hx hb dX6_convolved_8 (lv_at hl 4 rfl) ?_
  refine z_if_lt (tgt := 28) hx hb dX6_convolved_10 (by decide) (by omega) (fun c_10 => absurd c_10 (by omega)) (fun c_10 => ?_)
  refine lv_iload hx hb dX6_convolved_13 (lv_at hl 4 rfl) ?_
  refine lv_aload_n hx hb dX6_convolved_15 rfl (lv_at hl 0 rfl) ?_
  refine va_get (D := D) (ci := 5) (C := RX6) (T := TX6) (N := 8) hx hb hts hi6 hown hK hP 0 rfl rfl 3 (by decide) (hts (.fieldLink RX6 19 "ButterflyYardModel" "sizes" "[I") (by decide +kernel)) (fun _ h9 => h9) rfl dX6_convolved_16 ?_
  refine lv_iload_n hx hb dX6_convolved_19 rfl (lv_at hl 1 rfl) ?_
  refine z_iald (cA := cI) (n := 8) (g := xz) hx hb hK hR 0 0 rfl rfl rfl (by omega) dX6_convolved_20 ?_
  refine z_icmp_ge (tgt := 28) hx hb dX6_convolved_21 (by decide) (by omega) (fun c_21 => ?_) (fun c_21 => absurd c_21 (by omega))
  refine z_iconst hx hb dX6_convolved_28 ?_
  refine lv_istore (lv' := [(5, .int (zI 0)), (0, .ref h0), (1, .int (zI i)), (2, .int (zI a)), (3, .int (zI b)), (4, .int (zI x))]) hx hb dX6_convolved_29 hl (by decide) rfl (fun ls hl => ?_)
  have hl := lv_sub hl [1, 2, 3, 4, 5, 0] rfl
  have hl : lv_has ls 6 [(0, .ref h0), (1, .int (zI i)), (2, .int (zI a)), (3, .int (zI b)), (4, .int (zI x)), (5, .int (zI 0))] := hl
  refine lv_aload_n hx hb dX6_convolved_31 rfl (lv_at hl 0 rfl) ?_
  refine lv_iload_n hx hb dX6_convolved_32 rfl (lv_at hl 1 rfl) ?_
  refine lv_iload_n hx hb dX6_convolved_33 rfl (lv_at hl 2 rfl) ?_
  refine lv_iload_n hx hb dX6_convolved_34 rfl (lv_at hl 3 rfl) ?_
  refine lv_iload hx hb dX6_convolved_35 (lv_at hl 5 rfl) ?_
  refine z_if_eq (tgt := 44) hx hb dX6_convolved_37 (by decide) (by omega) (fun c_37 => ?_) (fun c_37 => absurd c_37 (by omega))
  refine z_iconst hx hb dX6_convolved_44 ?_
  have hRc : va_P D vwCl [] H := z_nilP
  have hPc := hP.sub (ws' := [(h0, .inr (5, [.ref ae, .ref al, .ref ap, .ref az, .ref ar, .int (zI np), .ref am, .int (zI th)]))]) [0] rfl
  have hDc := hD.sub (ws' := [(h0, .inr (5, [.ref ae, .ref al, .ref ap, .ref az, .ref ar, .int (zI np), .ref am, .int (zI th)]))]) [0] (by decide) rfl
  refine z_mu (ws := [(h0, .inr (5, [.ref ae, .ref al, .ref ap, .ref az, .ref ar, .int (zI np), .ref am, .int (zI th)]))]) (wc := [(h0, .inr (5, [.ref ae, .ref al, .ref ap, .ref az, .ref ar, .int (zI np), .ref am, .int (zI th)]))]) (wr := []) (va_runV (As := [.int (zI i), .int (zI a), .int (zI b), .int (zI (-1))]) (rest := []) CF (c_X6_areRight_1m l D cI h0 ae al ap az ar am np th i a b (-1) (by omega) (by omega) (by omega) (by omega) (by omega) (by omega) (by omega) (by omega) (by omega) H.size) (cwV 4 hts gX6_convolved_X6_areRight rfl rfl rfl (by decide +kernel) ⟨Nat.le_of_ble_eq_true rfl, Nat.le_of_ble_eq_true rfl⟩) (z_preV (va_recv hK hP (ci := 5) (q0 := 0) rfl rfl) hPc hDc hRc (z_dis (ws := [(h0, .inr (5, [.ref ae, .ref al, .ref ap, .ref az, .ref ar, .int (zI np), .ref am, .int (zI th)]))]) (rs := [(az, .inl (cI, 8, .inl (zA xz)))]) (wc := [(h0, .inr (5, [.ref ae, .ref al, .ref ap, .ref az, .ref ar, .int (zI np), .ref am, .int (zI th)]))]) (rc := []) hD hR0 (isC := [0]) (isR := []) rfl rfl (by decide)) (hK.sub (tys' := [(cI, .int)]) [0] rfl)) rfl rfl hl.1 rfl (lv_room (Nat.le_of_ble_eq_true rfl)) dX6_convolved_45 ⟨Nat.le_of_ble_eq_true rfl, Nat.le_of_ble_eq_true rfl⟩) hP hD hS hA [0] [] rfl rfl (by decide) (by decide) (cells' := 0) (slots' := 0) rfl rfl (fun u_45 H locs hp_45 hP hD hS => ?_)
  have hp_45 : True := hp_45
  have hP := hP.sub (ws' := [(h0, .inr (5, [.ref ae, .ref al, .ref ap, .ref az, .ref ar, .int (zI np), .ref am, .int (zI 1)]))]) [0] rfl
  have hD := hD.sub (ws' := [(h0, .inr (5, [.ref ae, .ref al, .ref ap, .ref az, .ref ar, .int (zI np), .ref am, .int (zI 1)]))]) [0] (by decide) rfl
  have hR := hR0.at hS
  refine z_if_eq (tgt := 63) hx hb dX6_convolved_48 (by decide) (by omega) (fun c_48 => ?_) (fun c_48 => absurd c_48 (by omega))
  refine z_iconst hx hb dX6_convolved_63 ?_
  exact z_iret hx hb hr hlocks rfl () (rfl) (trivial) hP hD hS dX6_convolved_64

set_option maxHeartbeats 4000000 in
set_option maxRecDepth 100000 in
theorem c_X6_convolved_2a (l : Launch) (D : va_G) (cI : ClassId) (h0 : Nat) (ae : Nat) (al : Nat) (ap : Nat) (az : Nat) (ar : Nat) (am : Nat) (np : Int) (th : Int) (xl : Int → Int) (xz : Int → Int) (i : Int) (a : Int) (b : Int) (x : Int) (ha_i : -2147483648 ≤ i ∧ i ≤ 2147483647) (ha_a : -2147483648 ≤ a ∧ a ≤ 2147483647) (ha_b : -2147483648 ≤ b ∧ b ≤ 2147483647) (ha_x : -2147483648 ≤ x ∧ x ≤ 2147483647) (hnp_ : 0 ≤ np ∧ np ≤ 8) (hi0 : 0 ≤ i ∧ i < np) (hz_ : 1 ≤ xz i ∧ xz i ≤ 64) (hr_a : 0 ≤ a ∧ a < 4) (hr_b : 0 ≤ b ∧ b < 4) (hxl_a : 0 ≤ xl a ∧ xl a ≤ 64) (hxl_b : 0 ≤ xl b ∧ xl b ≤ 64) (hx_ : 0 ≤ x ∧ x < xz i) (hla : xz i < xl a) : zC l yX6_convolved wsX6_convolved ({ frames := 2, cells := 0, slots := 0, locals := 46 } : Room) D [(cI, .int)] [(h0, .inr (5, [.ref ae, .ref al, .ref ap, .ref az, .ref ar, .int (zI np), .ref am, .int (zI th)]))] [(al, .inl (cI, 4, .inl (zA xl))), (az, .inl (cI, 8, .inl (zA xz)))] [.ref h0, .int (zI i), .int (zI a), .int (zI b), .int (zI x)] (S := Unit) (fun u => True) (fun u => some (.int (zI 0))) (fun u => [(h0, .inr (5, [.ref ae, .ref al, .ref ap, .ref az, .ref ar, .int (zI np), .ref am, .int (zI 2)]))]) := by
  refine z_start (cc := cX6_convolved) (maxL := 6) (ret := (some .int)) (own := RX6) (by decide) rfl rfl (Nat.le_of_ble_eq_true rfl) [(0, .ref h0), (1, .int (zI i)), (2, .int (zI a)), (3, .int (zI b)), (4, .int (zI x))] rfl ?_
  intro pp ee s mm below meth cc A H ls hx hb hr hml hts hown hlocks hin hK hA hP hD hS hR0 hR hl
  have CF : CallFix pp mm cc cX6_convolved 6 s ([.ref h0, .int (zI i), .int (zI a), .int (zI b), .int (zI x)] : List Value).toArray wsX6_convolved RX6 := ⟨hx, hb, hml, hown, hts⟩
  have hi6 : ∀ w ∈ wsX60, w ∈ wsX6_convolved := by decide +kernel
  refine lv_aload_n hx hb dX6_convolved_0 rfl (lv_at hl 0 rfl) ?_
  refine lv_iload_n hx hb dX6_convolved_1 rfl (lv_at hl 1 rfl) ?_
  have hRc := z_subR (ws := [(h0, .inr (5, [.ref ae, .ref al, .ref ap, .ref az, .ref ar, .int (zI np), .ref am, .int (zI th)]))]) (rs := [(al, .inl (cI, 4, .inl (zA xl))), (az, .inl (cI, 8, .inl (zA xz)))]) (rc := [(h0, .inr (5, [.ref ae, .ref al, .ref ap, .ref az, .ref ar, .int (zI np), .ref am, .int (zI th)]))]) hP hR (isR := [0]) rfl
  refine z_ro (ws := [(h0, .inr (5, [.ref ae, .ref al, .ref ap, .ref az, .ref ar, .int (zI np), .ref am, .int (zI th)]))]) (va_runV (As := [.int (zI i)]) (rest := []) CF (c_X6_isPlan l D h0 ae al ap az ar am np th i (by omega) (by omega) H.size) (cwV 1 hts gX6_convolved_X6_isPlan rfl rfl rfl (by decide +kernel) ⟨Nat.le_of_ble_eq_true rfl, Nat.le_of_ble_eq_true rfl⟩) (z_preV (va_recv hK hP (ci := 5) (q0 := 0) rfl rfl) z_nilP (z_nilD (A := A)) hRc z_noX (hK.sub (tys' := []) [] rfl)) rfl rfl hl.1 rfl (lv_room (Nat.le_of_ble_eq_true rfl)) dX6_convolved_2 ⟨Nat.le_of_ble_eq_true rfl, Nat.le_of_ble_eq_true rfl⟩) hP hS hA (cells' := 0) (slots' := 0) rfl rfl (fun H locs hP hS => ?_)
  have hR := hR0.at hS
  refine z_ifB_eq (tgt := 28) hx hb dX6_convolved_5 (by decide) (fun c_5 => absurd c_5 (by omega)) (fun c_5 => ?_)
  refine lv_iload hx hb dX6_convolved_8 (lv_at hl 4 rfl) ?_
  refine z_if_lt (tgt := 28) hx hb dX6_convolved_10 (by decide) (by omega) (fun c_10 => absurd c_10 (by omega)) (fun c_10 => ?_)
  refine lv_iload hx hb dX6_convolved_13 (lv_at hl 4 rfl) ?_
  refine lv_aload_n hx hb dX6_convolved_15 rfl (lv_at hl 0 rfl) ?_
  refine va_get (D := D) (ci := 5) (C := RX6) (T := TX6) (N := 8) hx hb hts hi6 hown hK hP 0 rfl rfl 3 (by decide) (hts (.fieldLink RX6 19 "ButterflyYardModel" "sizes" "[I") (by decide +kernel)) (fun _ h9 => h9) rfl dX6_convolved_16 ?_
  refine lv_iload_n hx hb dX6_convolved_19 rfl (lv_at hl 1 rfl) ?_
  refine z_iald (cA := cI) (n := 8) (g := xz) hx hb hK hR 1 0 rfl rfl rfl (by omega) dX6_convolved_20 ?_
  refine z_icmp_ge (tgt := 28) hx hb dX6_convolved_21 (by decide) (by omega) (fun c_21 => absurd c_21 (by omega)) (fun c_21 => ?_)
  refine z_iconst hx hb dX6_convolved_24 ?_
  refine lv_goto (tgt := 29) hx hb dX6_convolved_25 (by decide) ?_
  refine lv_istore (lv' := [(5, .int (zI 1)), (0, .ref h0), (1, .int (zI i)), (2, .int (zI a)), (3, .int (zI b)), (4, .int (zI x))]) hx hb dX6_convolved_29 hl (by decide) rfl (fun ls hl => ?_)
  have hl := lv_sub hl [1, 2, 3, 4, 5, 0] rfl
  have hl : lv_has ls 6 [(0, .ref h0), (1, .int (zI i)), (2, .int (zI a)), (3, .int (zI b)), (4, .int (zI x)), (5, .int (zI 1))] := hl
  refine lv_aload_n hx hb dX6_convolved_31 rfl (lv_at hl 0 rfl) ?_
  refine lv_iload_n hx hb dX6_convolved_32 rfl (lv_at hl 1 rfl) ?_
  refine lv_iload_n hx hb dX6_convolved_33 rfl (lv_at hl 2 rfl) ?_
  refine lv_iload_n hx hb dX6_convolved_34 rfl (lv_at hl 3 rfl) ?_
  refine lv_iload hx hb dX6_convolved_35 (lv_at hl 5 rfl) ?_
  refine z_if_eq (tgt := 44) hx hb dX6_convolved_37 (by decide) (by omega) (fun c_37 => absurd c_37 (by omega)) (fun c_37 => ?_)
  refine z_iconst hx hb dX6_convolved_40 ?_
  refine lv_goto (tgt := 45) hx hb dX6_convolved_41 (by decide) ?_
  have hRc := z_subR (ws := [(h0, .inr (5, [.ref ae, .ref al, .ref ap, .ref az, .ref ar, .int (zI np), .ref am, .int (zI th)]))]) (rs := [(al, .inl (cI, 4, .inl (zA xl))), (az, .inl (cI, 8, .inl (zA xz)))]) (rc := [(al, .inl (cI, 4, .inl (zA xl))), (az, .inl (cI, 8, .inl (zA xz)))]) hP hR (isR := [1, 2]) rfl
  have hPc := hP.sub (ws' := [(h0, .inr (5, [.ref ae, .ref al, .ref ap, .ref az, .ref ar, .int (zI np), .ref am, .int (zI th)]))]) [0] rfl
  have hDc := hD.sub (ws' := [(h0, .inr (5, [.ref ae, .ref al, .ref ap, .ref az, .ref ar, .int (zI np), .ref am, .int (zI th)]))]) [0] (by decide) rfl
  refine z_mu (ws := [(h0, .inr (5, [.ref ae, .ref al, .ref ap, .ref az, .ref ar, .int (zI np), .ref am, .int (zI th)]))]) (wc := [(h0, .inr (5, [.ref ae, .ref al, .ref ap, .ref az, .ref ar, .int (zI np), .ref am, .int (zI th)]))]) (wr := []) (va_runV (As := [.int (zI i), .int (zI a), .int (zI b), .int (zI 0)]) (rest := []) CF (c_X6_areRight_2a l D cI h0 ae al ap az ar am np th xl xz i a b 0 (by omega) (by omega) (by omega) (by omega) (by omega) (by omega) (by omega) (by omega) (by omega) (by omega) (by omega) (by omega) (by omega) H.size) (cwV 4 hts gX6_convolved_X6_areRight rfl rfl rfl (by decide +kernel) ⟨Nat.le_of_ble_eq_true rfl, Nat.le_of_ble_eq_true rfl⟩) (z_preV (va_recv hK hP (ci := 5) (q0 := 0) rfl rfl) hPc hDc hRc (z_dis (ws := [(h0, .inr (5, [.ref ae, .ref al, .ref ap, .ref az, .ref ar, .int (zI np), .ref am, .int (zI th)]))]) (rs := [(al, .inl (cI, 4, .inl (zA xl))), (az, .inl (cI, 8, .inl (zA xz)))]) (wc := [(h0, .inr (5, [.ref ae, .ref al, .ref ap, .ref az, .ref ar, .int (zI np), .ref am, .int (zI th)]))]) (rc := [(al, .inl (cI, 4, .inl (zA xl))), (az, .inl (cI, 8, .inl (zA xz)))]) hD hR0 (isC := [0]) (isR := [1, 2]) rfl rfl (by decide)) (hK.sub (tys' := [(cI, .int)]) [0] rfl)) rfl rfl hl.1 rfl (lv_room (Nat.le_of_ble_eq_true rfl)) dX6_convolved_45 ⟨Nat.le_of_ble_eq_true rfl, Nat.le_of_ble_eq_true rfl⟩) hP hD hS hA [0] [] rfl rfl (by decide) (by decide) (cells' := 0) (slots' := 0) rfl rfl (fun u_45 H locs hp_45 hP hD hS => ?_)
  have hp_45 : True := hp_45
  have hP := hP.sub (ws' := [(h0, .inr (5, [.ref ae, .ref al, .ref ap, .ref az, .ref ar, .int (zI np), .ref am, .int (zI 2)]))]) [0] rfl
  have hD := hD.sub (ws' := [(h0, .inr (5, [.ref ae, .ref al, .ref ap, .ref az, .ref ar, .int (zI np), .ref am, .int (zI 2)]))]) [0] (by decide) rfl
  have hR := hR0.at hS
  refine z_if_eq (tgt := 63) hx hb dX6_convolved_48 (by decide) (by omega) (fun c_48 => ?_) (fun c_48 => absurd c_48 (by omega))
  refine z_iconst hx hb dX6_convolved_63 ?_
  exact z_iret hx hb hr hlocks rfl () (rfl) (trivial) hP hD hS dX6_convolved_64

set_option maxHeartbeats 4000000 in
set_option maxRecDepth 100000 in
theorem c_X6_convolved_2b (l : Launch) (D : va_G) (cI : ClassId) (h0 : Nat) (ae : Nat) (al : Nat) (ap : Nat) (az : Nat) (ar : Nat) (am : Nat) (np : Int) (th : Int) (xl : Int → Int) (xz : Int → Int) (i : Int) (a : Int) (b : Int) (x : Int) (ha_i : -2147483648 ≤ i ∧ i ≤ 2147483647) (ha_a : -2147483648 ≤ a ∧ a ≤ 2147483647) (ha_b : -2147483648 ≤ b ∧ b ≤ 2147483647) (ha_x : -2147483648 ≤ x ∧ x ≤ 2147483647) (hnp_ : 0 ≤ np ∧ np ≤ 8) (hi0 : 0 ≤ i ∧ i < np) (hz_ : 1 ≤ xz i ∧ xz i ≤ 64) (hr_a : 0 ≤ a ∧ a < 4) (hr_b : 0 ≤ b ∧ b < 4) (hxl_a : 0 ≤ xl a ∧ xl a ≤ 64) (hxl_b : 0 ≤ xl b ∧ xl b ≤ 64) (hx_ : 0 ≤ x ∧ x < xz i) (hla : xl a ≤ xz i) (hlb : xz i < xl b) : zC l yX6_convolved wsX6_convolved ({ frames := 2, cells := 0, slots := 0, locals := 46 } : Room) D [(cI, .int)] [(h0, .inr (5, [.ref ae, .ref al, .ref ap, .ref az, .ref ar, .int (zI np), .ref am, .int (zI th)]))] [(al, .inl (cI, 4, .inl (zA xl))), (az, .inl (cI, 8, .inl (zA xz)))] [.ref h0, .int (zI i), .int (zI a), .int (zI b), .int (zI x)] (S := Unit) (fun u => True) (fun u => some (.int (zI 0))) (fun u => [(h0, .inr (5, [.ref ae, .ref al, .ref ap, .ref az, .ref ar, .int (zI np), .ref am, .int (zI 2)]))]) := by
  refine z_start (cc := cX6_convolved) (maxL := 6) (ret := (some .int)) (own := RX6) (by decide) rfl rfl (Nat.le_of_ble_eq_true rfl) [(0, .ref h0), (1, .int (zI i)), (2, .int (zI a)), (3, .int (zI b)), (4, .int (zI x))] rfl ?_
  intro pp ee s mm below meth cc A H ls hx hb hr hml hts hown hlocks hin hK hA hP hD hS hR0 hR hl
  have CF : CallFix pp mm cc cX6_convolved 6 s ([.ref h0, .int (zI i), .int (zI a), .int (zI b), .int (zI x)] : List Value).toArray wsX6_convolved RX6 := ⟨hx, hb, hml, hown, hts⟩
  have hi6 : ∀ w ∈ wsX60, w ∈ wsX6_convolved := by decide +kernel
  refine lv_aload_n hx hb dX6_convolved_0 rfl (lv_at hl 0 rfl) ?_
  refine lv_iload_n hx hb dX6_convolved_1 rfl (lv_at hl 1 rfl) ?_
  have hRc := z_subR (ws := [(h0, .inr (5, [.ref ae, .ref al, .ref ap, .ref az, .ref ar, .int (zI np), .ref am, .int (zI th)]))]) (rs := [(al, .inl (cI, 4, .inl (zA xl))), (az, .inl (cI, 8, .inl (zA xz)))]) (rc := [(h0, .inr (5, [.ref ae, .ref al, .ref ap, .ref az, .ref ar, .int (zI np), .ref am, .int (zI th)]))]) hP hR (isR := [0]) rfl
  refine z_ro (ws := [(h0, .inr (5, [.ref ae, .ref al, .ref ap, .ref az, .ref ar, .int (zI np), .ref am, .int (zI th)]))]) (va_runV (As := [.int (zI i)]) (rest := []) CF (c_X6_isPlan l D h0 ae al ap az ar am np th i (by omega) (by omega) H.size) (cwV 1 hts gX6_convolved_X6_isPlan rfl rfl rfl (by decide +kernel) ⟨Nat.le_of_ble_eq_true rfl, Nat.le_of_ble_eq_true rfl⟩) (z_preV (va_recv hK hP (ci := 5) (q0 := 0) rfl rfl) z_nilP (z_nilD (A := A)) hRc z_noX (hK.sub (tys' := []) [] rfl)) rfl rfl hl.1 rfl (lv_room (Nat.le_of_ble_eq_true rfl)) dX6_convolved_2 ⟨Nat.le_of_ble_eq_true rfl, Nat.le_of_ble_eq_true rfl⟩) hP hS hA (cells' := 0) (slots' := 0) rfl rfl (fun H locs hP hS => ?_)
  have hR := hR0.at hS
  refine z_ifB_eq (tgt := 28) hx hb dX6_convolved_5 (by decide) (fun c_5 => absurd c_5 (by omega)) (fun c_5 => ?_)
  refine lv_iload hx hb dX6_convolved_8 (lv_at hl 4 rfl) ?_
  refine z_if_lt (tgt := 28) hx hb dX6_convolved_10 (by decide) (by omega) (fun c_10 => absurd c_10 (by omega)) (fun c_10 => ?_)
  refine lv_iload hx hb dX6_convolved_13 (lv_at hl 4 rfl) ?_
  refine lv_aload_n hx hb dX6_convolved_15 rfl (lv_at hl 0 rfl) ?_
  refine va_get (D := D) (ci := 5) (C := RX6) (T := TX6) (N := 8) hx hb hts hi6 hown hK hP 0 rfl rfl 3 (by decide) (hts (.fieldLink RX6 19 "ButterflyYardModel" "sizes" "[I") (by decide +kernel)) (fun _ h9 => h9) rfl dX6_convolved_16 ?_
  refine lv_iload_n hx hb dX6_convolved_19 rfl (lv_at hl 1 rfl) ?_
  refine z_iald (cA := cI) (n := 8) (g := xz) hx hb hK hR 1 0 rfl rfl rfl (by omega) dX6_convolved_20 ?_
  refine z_icmp_ge (tgt := 28) hx hb dX6_convolved_21 (by decide) (by omega) (fun c_21 => absurd c_21 (by omega)) (fun c_21 => ?_)
  refine z_iconst hx hb dX6_convolved_24 ?_
  refine lv_goto (tgt := 29) hx hb dX6_convolved_25 (by decide) ?_
  refine lv_istore (lv' := [(5, .int (zI 1)), (0, .ref h0), (1, .int (zI i)), (2, .int (zI a)), (3, .int (zI b)), (4, .int (zI x))]) hx hb dX6_convolved_29 hl (by decide) rfl (fun ls hl => ?_)
  have hl := lv_sub hl [1, 2, 3, 4, 5, 0] rfl
  have hl : lv_has ls 6 [(0, .ref h0), (1, .int (zI i)), (2, .int (zI a)), (3, .int (zI b)), (4, .int (zI x)), (5, .int (zI 1))] := hl
  refine lv_aload_n hx hb dX6_convolved_31 rfl (lv_at hl 0 rfl) ?_
  refine lv_iload_n hx hb dX6_convolved_32 rfl (lv_at hl 1 rfl) ?_
  refine lv_iload_n hx hb dX6_convolved_33 rfl (lv_at hl 2 rfl) ?_
  refine lv_iload_n hx hb dX6_convolved_34 rfl (lv_at hl 3 rfl) ?_
  refine lv_iload hx hb dX6_convolved_35 (lv_at hl 5 rfl) ?_
  refine z_if_eq (tgt := 44) hx hb dX6_convolved_37 (by decide) (by omega) (fun c_37 => absurd c_37 (by omega)) (fun c_37 => ?_)
  refine z_iconst hx hb dX6_convolved_40 ?_
  refine lv_goto (tgt := 45) hx hb dX6_convolved_41 (by decide) ?_
  have hRc := z_subR (ws := [(h0, .inr (5, [.ref ae, .ref al, .ref ap, .ref az, .ref ar, .int (zI np), .ref am, .int (zI th)]))]) (rs := [(al, .inl (cI, 4, .inl (zA xl))), (az, .inl (cI, 8, .inl (zA xz)))]) (rc := [(al, .inl (cI, 4, .inl (zA xl))), (az, .inl (cI, 8, .inl (zA xz)))]) hP hR (isR := [1, 2]) rfl
  have hPc := hP.sub (ws' := [(h0, .inr (5, [.ref ae, .ref al, .ref ap, .ref az, .ref ar, .int (zI np), .ref am, .int (zI th)]))]) [0] rfl
  have hDc := hD.sub (ws' := [(h0, .inr (5, [.ref ae, .ref al, .ref ap, .ref az, .ref ar, .int (zI np), .ref am, .int (zI th)]))]) [0] (by decide) rfl
  refine z_mu (ws := [(h0, .inr (5, [.ref ae, .ref al, .ref ap, .ref az, .ref ar, .int (zI np), .ref am, .int (zI th)]))]) (wc := [(h0, .inr (5, [.ref ae, .ref al, .ref ap, .ref az, .ref ar, .int (zI np), .ref am, .int (zI th)]))]) (wr := []) (va_runV (As := [.int (zI i), .int (zI a), .int (zI b), .int (zI 0)]) (rest := []) CF (c_X6_areRight_2b l D cI h0 ae al ap az ar am np th xl xz i a b 0 (by omega) (by omega) (by omega) (by omega) (by omega) (by omega) (by omega) (by omega) (by omega) (by omega) (by omega) (by omega) (by omega) (by omega) H.size) (cwV 4 hts gX6_convolved_X6_areRight rfl rfl rfl (by decide +kernel) ⟨Nat.le_of_ble_eq_true rfl, Nat.le_of_ble_eq_true rfl⟩) (z_preV (va_recv hK hP (ci := 5) (q0 := 0) rfl rfl) hPc hDc hRc (z_dis (ws := [(h0, .inr (5, [.ref ae, .ref al, .ref ap, .ref az, .ref ar, .int (zI np), .ref am, .int (zI th)]))]) (rs := [(al, .inl (cI, 4, .inl (zA xl))), (az, .inl (cI, 8, .inl (zA xz)))]) (wc := [(h0, .inr (5, [.ref ae, .ref al, .ref ap, .ref az, .ref ar, .int (zI np), .ref am, .int (zI th)]))]) (rc := [(al, .inl (cI, 4, .inl (zA xl))), (az, .inl (cI, 8, .inl (zA xz)))]) hD hR0 (isC := [0]) (isR := [1, 2]) rfl rfl (by decide)) (hK.sub (tys' := [(cI, .int)]) [0] rfl)) rfl rfl hl.1 rfl (lv_room (Nat.le_of_ble_eq_true rfl)) dX6_convolved_45 ⟨Nat.le_of_ble_eq_true rfl, Nat.le_of_ble_eq_true rfl⟩) hP hD hS hA [0] [] rfl rfl (by decide) (by decide) (cells' := 0) (slots' := 0) rfl rfl (fun u_45 H locs hp_45 hP hD hS => ?_)
  have hp_45 : True := hp_45
  have hP := hP.sub (ws' := [(h0, .inr (5, [.ref ae, .ref al, .ref ap, .ref az, .ref ar, .int (zI np), .ref am, .int (zI 2)]))]) [0] rfl
  have hD := hD.sub (ws' := [(h0, .inr (5, [.ref ae, .ref al, .ref ap, .ref az, .ref ar, .int (zI np), .ref am, .int (zI 2)]))]) [0] (by decide) rfl
  have hR := hR0.at hS
  refine z_if_eq (tgt := 63) hx hb dX6_convolved_48 (by decide) (by omega) (fun c_48 => ?_) (fun c_48 => absurd c_48 (by omega))
  refine z_iconst hx hb dX6_convolved_63 ?_
  exact z_iret hx hb hr hlocks rfl () (rfl) (trivial) hP hD hS dX6_convolved_64

set_option maxHeartbeats 4000000 in
set_option maxRecDepth 100000 in
theorem c_X6_convolved_ok (l : Launch) (D : va_G) (cI : ClassId) (h0 : Nat) (ae : Nat) (al : Nat) (ap : Nat) (az : Nat) (ar : Nat) (am : Nat) (np : Int) (th : Int) (xe : Int → Int) (xl : Int → Int) (xp : Int → Int) (xz : Int → Int) (i : Int) (a : Int) (b : Int) (x : Int) (ha_i : -2147483648 ≤ i ∧ i ≤ 2147483647) (ha_a : -2147483648 ≤ a ∧ a ≤ 2147483647) (ha_b : -2147483648 ≤ b ∧ b ≤ 2147483647) (ha_x : -2147483648 ≤ x ∧ x ≤ 2147483647) (hnp_ : 0 ≤ np ∧ np ≤ 8) (hi0 : 0 ≤ i ∧ i < np) (hz_ : 1 ≤ xz i ∧ xz i ≤ 64) (hp_ : 2 ≤ xp i ∧ xp i ≤ 10000) (hr_a : 0 ≤ a ∧ a < 4) (hr_b : 0 ≤ b ∧ b < 4) (hxl_a : 0 ≤ xl a ∧ xl a ≤ 64) (hxl_b : 0 ≤ xl b ∧ xl b ≤ 64) (hxe : ∀ k, 0 ≤ k → k < 256 → -1000000 ≤ xe k ∧ xe k ≤ 1000000) (hx_ : 0 ≤ x ∧ x < xz i) (hla : xl a ≤ xz i) (hlb : xl b ≤ xz i) : zC l yX6_convolved wsX6_convolved ({ frames := 3, cells := 0, slots := 0, locals := 73 } : Room) D [(cI, .int)] [(h0, .inr (5, [.ref ae, .ref al, .ref ap, .ref az, .ref ar, .int (zI np), .ref am, .int (zI th)]))] [(ae, .inl (cI, 256, .inl (zA xe))), (al, .inl (cI, 4, .inl (zA xl))), (ap, .inl (cI, 8, .inl (zA xp))), (az, .inl (cI, 8, .inl (zA xz)))] [.ref h0, .int (zI i), .int (zI a), .int (zI b), .int (zI x)] (S := Unit) (fun u => True) (fun u => some (.int (zI (cyc (xp i) (xz i) (fun j => rowAt (eRow xe a) (xl a) j % xp i) (fun j => rowAt (eRow xe b) (xl b) j % xp i) x)))) (fun u => [(h0, .inr (5, [.ref ae, .ref al, .ref ap, .ref az, .ref ar, .int (zI np), .ref am, .int (zI 0)]))]) := by
  refine z_start (cc := cX6_convolved) (maxL := 6) (ret := (some .int)) (own := RX6) (by decide) rfl rfl (Nat.le_of_ble_eq_true rfl) [(0, .ref h0), (1, .int (zI i)), (2, .int (zI a)), (3, .int (zI b)), (4, .int (zI x))] rfl ?_
  intro pp ee s mm below meth cc A H ls hx hb hr hml hts hown hlocks hin hK hA hP hD hS hR0 hR hl
  have CF : CallFix pp mm cc cX6_convolved 6 s ([.ref h0, .int (zI i), .int (zI a), .int (zI b), .int (zI x)] : List Value).toArray wsX6_convolved RX6 := ⟨hx, hb, hml, hown, hts⟩
  have hi6 : ∀ w ∈ wsX60, w ∈ wsX6_convolved := by decide +kernel
  refine lv_aload_n hx hb dX6_convolved_0 rfl (lv_at hl 0 rfl) ?_
  refine lv_iload_n hx hb dX6_convolved_1 rfl (lv_at hl 1 rfl) ?_
  have hRc := z_subR (ws := [(h0, .inr (5, [.ref ae, .ref al, .ref ap, .ref az, .ref ar, .int (zI np), .ref am, .int (zI th)]))]) (rs := [(ae, .inl (cI, 256, .inl (zA xe))), (al, .inl (cI, 4, .inl (zA xl))), (ap, .inl (cI, 8, .inl (zA xp))), (az, .inl (cI, 8, .inl (zA xz)))]) (rc := [(h0, .inr (5, [.ref ae, .ref al, .ref ap, .ref az, .ref ar, .int (zI np), .ref am, .int (zI th)]))]) hP hR (isR := [0]) rfl
  refine z_ro (ws := [(h0, .inr (5, [.ref ae, .ref al, .ref ap, .ref az, .ref ar, .int (zI np), .ref am, .int (zI th)]))]) (va_runV (As := [.int (zI i)]) (rest := []) CF (c_X6_isPlan l D h0 ae al ap az ar am np th i (by omega) (by omega) H.size) (cwV 1 hts gX6_convolved_X6_isPlan rfl rfl rfl (by decide +kernel) ⟨Nat.le_of_ble_eq_true rfl, Nat.le_of_ble_eq_true rfl⟩) (z_preV (va_recv hK hP (ci := 5) (q0 := 0) rfl rfl) z_nilP (z_nilD (A := A)) hRc z_noX (hK.sub (tys' := []) [] rfl)) rfl rfl hl.1 rfl (lv_room (Nat.le_of_ble_eq_true rfl)) dX6_convolved_2 ⟨Nat.le_of_ble_eq_true rfl, Nat.le_of_ble_eq_true rfl⟩) hP hS hA (cells' := 0) (slots' := 0) rfl rfl (fun H locs hP hS => ?_)
  have hR := hR0.at hS
  refine z_ifB_eq (tgt := 28) hx hb dX6_convolved_5 (by decide) (fun c_5 => absurd c_5 (by omega)) (fun c_5 => ?_)
  refine lv_iload hx hb dX6_convolved_8 (lv_at hl 4 rfl) ?_
  refine z_if_lt (tgt := 28) hx hb dX6_convolved_10 (by decide) (by omega) (fun c_10 => absurd c_10 (by omega)) (fun c_10 => ?_)
  refine lv_iload hx hb dX6_convolved_13 (lv_at hl 4 rfl) ?_
  refine lv_aload_n hx hb dX6_convolved_15 rfl (lv_at hl 0 rfl) ?_
  refine va_get (D := D) (ci := 5) (C := RX6) (T := TX6) (N := 8) hx hb hts hi6 hown hK hP 0 rfl rfl 3 (by decide) (hts (.fieldLink RX6 19 "ButterflyYardModel" "sizes" "[I") (by decide +kernel)) (fun _ h9 => h9) rfl dX6_convolved_16 ?_
  refine lv_iload_n hx hb dX6_convolved_19 rfl (lv_at hl 1 rfl) ?_
  refine z_iald (cA := cI) (n := 8) (g := xz) hx hb hK hR 3 0 rfl rfl rfl (by omega) dX6_convolved_20 ?_
  refine z_icmp_ge (tgt := 28) hx hb dX6_convolved_21 (by decide) (by omega) (fun c_21 => absurd c_21 (by omega)) (fun c_21 => ?_)
  refine z_iconst hx hb dX6_convolved_24 ?_
  refine lv_goto (tgt := 29) hx hb dX6_convolved_25 (by decide) ?_
  refine lv_istore (lv' := [(5, .int (zI 1)), (0, .ref h0), (1, .int (zI i)), (2, .int (zI a)), (3, .int (zI b)), (4, .int (zI x))]) hx hb dX6_convolved_29 hl (by decide) rfl (fun ls hl => ?_)
  have hl := lv_sub hl [1, 2, 3, 4, 5, 0] rfl
  have hl : lv_has ls 6 [(0, .ref h0), (1, .int (zI i)), (2, .int (zI a)), (3, .int (zI b)), (4, .int (zI x)), (5, .int (zI 1))] := hl
  refine lv_aload_n hx hb dX6_convolved_31 rfl (lv_at hl 0 rfl) ?_
  refine lv_iload_n hx hb dX6_convolved_32 rfl (lv_at hl 1 rfl) ?_
  refine lv_iload_n hx hb dX6_convolved_33 rfl (lv_at hl 2 rfl) ?_
  refine lv_iload_n hx hb dX6_convolved_34 rfl (lv_at hl 3 rfl) ?_
  refine lv_iload hx hb dX6_convolved_35 (lv_at hl 5 rfl) ?_
  refine z_if_eq (tgt := 44) hx hb dX6_convolved_37 (by decide) (by omega) (fun c_37 => absurd c_37 (by omega)) (fun c_37 => ?_)
  refine z_iconst hx hb dX6_convolved_40 ?_
  refine lv_goto (tgt := 45) hx hb dX6_convolved_41 (by decide) ?_
  have hRc := z_subR (ws := [(h0, .inr (5, [.ref ae, .ref al, .ref ap, .ref az, .ref ar, .int (zI np), .ref am, .int (zI th)]))]) (rs := [(ae, .inl (cI, 256, .inl (zA xe))), (al, .inl (cI, 4, .inl (zA xl))), (ap, .inl (cI, 8, .inl (zA xp))), (az, .inl (cI, 8, .inl (zA xz)))]) (rc := [(al, .inl (cI, 4, .inl (zA xl))), (az, .inl (cI, 8, .inl (zA xz)))]) hP hR (isR := [2, 4]) rfl
  have hPc := hP.sub (ws' := [(h0, .inr (5, [.ref ae, .ref al, .ref ap, .ref az, .ref ar, .int (zI np), .ref am, .int (zI th)]))]) [0] rfl
  have hDc := hD.sub (ws' := [(h0, .inr (5, [.ref ae, .ref al, .ref ap, .ref az, .ref ar, .int (zI np), .ref am, .int (zI th)]))]) [0] (by decide) rfl
  refine z_mu (ws := [(h0, .inr (5, [.ref ae, .ref al, .ref ap, .ref az, .ref ar, .int (zI np), .ref am, .int (zI th)]))]) (wc := [(h0, .inr (5, [.ref ae, .ref al, .ref ap, .ref az, .ref ar, .int (zI np), .ref am, .int (zI th)]))]) (wr := []) (va_runV (As := [.int (zI i), .int (zI a), .int (zI b), .int (zI 0)]) (rest := []) CF (c_X6_areRight_ok l D cI h0 ae al ap az ar am np th xl xz i a b 0 (by omega) (by omega) (by omega) (by omega) (by omega) (by omega) (by omega) (by omega) (by omega) (by omega) (by omega) (by omega) (by omega) (by omega) H.size) (cwV 4 hts gX6_convolved_X6_areRight rfl rfl rfl (by decide +kernel) ⟨Nat.le_of_ble_eq_true rfl, Nat.le_of_ble_eq_true rfl⟩) (z_preV (va_recv hK hP (ci := 5) (q0 := 0) rfl rfl) hPc hDc hRc (z_dis (ws := [(h0, .inr (5, [.ref ae, .ref al, .ref ap, .ref az, .ref ar, .int (zI np), .ref am, .int (zI th)]))]) (rs := [(ae, .inl (cI, 256, .inl (zA xe))), (al, .inl (cI, 4, .inl (zA xl))), (ap, .inl (cI, 8, .inl (zA xp))), (az, .inl (cI, 8, .inl (zA xz)))]) (wc := [(h0, .inr (5, [.ref ae, .ref al, .ref ap, .ref az, .ref ar, .int (zI np), .ref am, .int (zI th)]))]) (rc := [(al, .inl (cI, 4, .inl (zA xl))), (az, .inl (cI, 8, .inl (zA xz)))]) hD hR0 (isC := [0]) (isR := [2, 4]) rfl rfl (by decide)) (hK.sub (tys' := [(cI, .int)]) [0] rfl)) rfl rfl hl.1 rfl (lv_room (Nat.le_of_ble_eq_true rfl)) dX6_convolved_45 ⟨Nat.le_of_ble_eq_true rfl, Nat.le_of_ble_eq_true rfl⟩) hP hD hS hA [0] [] rfl rfl (by decide) (by decide) (cells' := 0) (slots' := 0) rfl rfl (fun u_45 H locs hp_45 hP hD hS => ?_)
  have hp_45 : True := hp_45
  have hP := hP.sub (ws' := [(h0, .inr (5, [.ref ae, .ref al, .ref ap, .ref az, .ref ar, .int (zI np), .ref am, .int (zI 0)]))]) [0] rfl
  have hD := hD.sub (ws' := [(h0, .inr (5, [.ref ae, .ref al, .ref ap, .ref az, .ref ar, .int (zI np), .ref am, .int (zI 0)]))]) [0] (by decide) rfl
  have hR := hR0.at hS
  refine z_if_eq (tgt := 63) hx hb dX6_convolved_48 (by decide) (by omega) (fun c_48 => absurd c_48 (by omega)) (fun c_48 => ?_)
  refine lv_aload_n hx hb dX6_convolved_51 rfl (lv_at hl 0 rfl) ?_
  refine lv_iload_n hx hb dX6_convolved_52 rfl (lv_at hl 1 rfl) ?_
  refine lv_iload_n hx hb dX6_convolved_53 rfl (lv_at hl 2 rfl) ?_
  refine lv_iload_n hx hb dX6_convolved_54 rfl (lv_at hl 3 rfl) ?_
  refine lv_iload hx hb dX6_convolved_55 (lv_at hl 4 rfl) ?_
  have hRc := z_subR (ws := [(h0, .inr (5, [.ref ae, .ref al, .ref ap, .ref az, .ref ar, .int (zI np), .ref am, .int (zI 0)]))]) (rs := [(ae, .inl (cI, 256, .inl (zA xe))), (al, .inl (cI, 4, .inl (zA xl))), (ap, .inl (cI, 8, .inl (zA xp))), (az, .inl (cI, 8, .inl (zA xz)))]) (rc := [(h0, .inr (5, [.ref ae, .ref al, .ref ap, .ref az, .ref ar, .int (zI np), .ref am, .int (zI 0)])), (ae, .inl (cI, 256, .inl (zA xe))), (al, .inl (cI, 4, .inl (zA xl))), (ap, .inl (cI, 8, .inl (zA xp))), (az, .inl (cI, 8, .inl (zA xz)))]) hP hR (isR := [0, 1, 2, 3, 4]) rfl
  refine z_ro (ws := [(h0, .inr (5, [.ref ae, .ref al, .ref ap, .ref az, .ref ar, .int (zI np), .ref am, .int (zI 0)]))]) (va_runV (As := [.int (zI i), .int (zI a), .int (zI b), .int (zI x)]) (rest := []) CF (c_X6_roundAt l D cI h0 ae al ap az ar am np 0 xe xl xp xz i a b x (by omega) (by omega) (by omega) (by omega) (by omega) (by omega) (by omega) (by omega) (by exact hxe) (by omega) H.size) (cwV 4 hts gX6_convolved_X6_roundAt rfl rfl rfl (by decide +kernel) ⟨Nat.le_of_ble_eq_true rfl, Nat.le_of_ble_eq_true rfl⟩) (z_preV (va_recv hK hP (ci := 5) (q0 := 0) rfl rfl) z_nilP (z_nilD (A := A)) hRc z_noX (hK.sub (tys' := [(cI, .int)]) [0] rfl)) rfl rfl hl.1 rfl (lv_room (Nat.le_of_ble_eq_true rfl)) dX6_convolved_57 ⟨Nat.le_of_ble_eq_true rfl, Nat.le_of_ble_eq_true rfl⟩) hP hS hA (cells' := 0) (slots' := 0) rfl rfl (fun H locs hP hS => ?_)
  have hR := hR0.at hS
  refine lv_goto (tgt := 64) hx hb dX6_convolved_60 (by decide) ?_
  exact z_iret hx hb hr hlocks rfl () (rfl) (trivial) hP hD hS dX6_convolved_64

set_option maxHeartbeats 4000000 in
set_option maxRecDepth 100000 in
theorem c_X6_isWithin (l : Launch) (D : va_G) (cI : ClassId) (h0 : Nat) (ae : Nat) (al : Nat) (ap : Nat) (az : Nat) (ar : Nat) (am : Nat) (np : Int) (th : Int) (xe : Int → Int) (xl : Int → Int) (r : Int) (lo : Int) (hi : Int) (hr_r : 0 ≤ r ∧ r < 4) (hxl_r : 0 ≤ xl r ∧ xl r ≤ 64) (hxe : ∀ k, 0 ≤ k → k < 256 → -1000000 ≤ xe k ∧ xe k ≤ 1000000) (hlo : -10000 ≤ lo ∧ lo ≤ 10000) (hhi : -10000 ≤ hi ∧ hi ≤ 10000) : zF l yX6_isWithin wsX6_isWithin ({ frames := 0, cells := 0, slots := 0, locals := 0 } : Room) D [(cI, .int)] [(h0, .inr (5, [.ref ae, .ref al, .ref ap, .ref az, .ref ar, .int (zI np), .ref am, .int (zI th)])), (ae, .inl (cI, 256, .inl (zA xe))), (al, .inl (cI, 4, .inl (zA xl)))] [.ref h0, .int (zI r), .int (zI lo), .int (zI hi)] (some (.int (zI (zB (zAll (fun k => decide (lo ≤ eRow xe r k ∧ eRow xe r k ≤ hi)) (xl r).toNat = true))))) := by
  refine z_start (cc := cX6_isWithin) (maxL := 6) (ret := (some .boolean)) (own := RX6) (by decide) rfl rfl (Nat.le_of_ble_eq_true rfl) [(0, .ref h0), (1, .int (zI r)), (2, .int (zI lo)), (3, .int (zI hi))] rfl ?_
  intro pp ee s mm below meth cc A H ls hx hb hr hml hts hown hlocks hin hK hA hP hD hS hR0 hR hl
  have CF : CallFix pp mm cc cX6_isWithin 6 s ([.ref h0, .int (zI r), .int (zI lo), .int (zI hi)] : List Value).toArray wsX6_isWithin RX6 := ⟨hx, hb, hml, hown, hts⟩
  have hi6 : ∀ w ∈ wsX60, w ∈ wsX6_isWithin := by decide +kernel
  refine z_iconst hx hb dX6_isWithin_0 ?_
  refine lv_istore (lv' := [(4, .int (zI 1)), (0, .ref h0), (1, .int (zI r)), (2, .int (zI lo)), (3, .int (zI hi))]) hx hb dX6_isWithin_1 hl (by decide) rfl (fun ls hl => ?_)
  have hl := lv_sub hl [1, 2, 3, 4, 0] rfl
  have hl : lv_has ls 6 [(0, .ref h0), (1, .int (zI r)), (2, .int (zI lo)), (3, .int (zI hi)), (4, .int (zI 1))] := hl
  refine z_iconst hx hb dX6_isWithin_3 ?_
  refine lv_istore (lv' := [(5, .int (zI 0)), (0, .ref h0), (1, .int (zI r)), (2, .int (zI lo)), (3, .int (zI hi)), (4, .int (zI 1))]) hx hb dX6_isWithin_4 hl (by decide) rfl (fun ls hl => ?_)
  have hl := lv_sub hl [1, 2, 3, 4, 5, 0] rfl
  have hl : lv_has ls 6 [(0, .ref h0), (1, .int (zI r)), (2, .int (zI lo)), (3, .int (zI hi)), (4, .int (zI 1)), (5, .int (zI 0))] := hl
  refine z_loop (σ := Int × Int) (fun (t, j) => (xl r - j).toNat) (fun (t, j) H locs ls => (0 ≤ j ∧ j ≤ xl r) ∧ ((t = 1 ∧ ∀ k, 0 ≤ k → k < j → lo ≤ eRow xe r k ∧ eRow xe r k ≤ hi) ∨ (t = 0 ∧ ∃ k, 0 ≤ k ∧ k < j ∧ ¬ (lo ≤ eRow xe r k ∧ eRow xe r k ≤ hi))) ∧ va_S A s.heap H locs ∧ lv_has ls 6 [(0, .ref h0), (1, .int (zI r)), (2, .int (zI lo)), (3, .int (zI hi)), (4, .int (zI t)), (5, .int (zI j))]) (1, 0) ⟨(by omega), (by exact Or.inl ⟨rfl, fun k h1 h2 => absurd h2 (by omega)⟩), hS, hl⟩ ?_
  intro ⟨t, j⟩ H locs ls hI ih_6
  obtain ⟨hj_, ht_, hS, hl⟩ := hI
  have hR := hR0.at hS
  have htr : 0 ≤ t ∧ t ≤ 1 := by rcases ht_ with q | q <;> omega
  refine lv_iload hx hb dX6_isWithin_6 (lv_at hl 5 rfl) ?_
  refine lv_aload_n hx hb dX6_isWithin_8 rfl (lv_at hl 0 rfl) ?_
  refine va_get (D := D) (ci := 5) (C := RX6) (T := TX6) (N := 8) hx hb hts hi6 hown hK hR 0 rfl rfl 1 (by decide) (hts (.fieldLink RX6 13 "ButterflyYardModel" "lengths" "[I") (by decide +kernel)) (fun _ h9 => h9) rfl dX6_isWithin_9 ?_
  refine lv_iload_n hx hb dX6_isWithin_12 rfl (lv_at hl 1 rfl) ?_
  refine z_iald (cA := cI) (n := 4) (g := xl) hx hb hK hR 2 0 rfl rfl rfl (by omega) dX6_isWithin_13 ?_
  refine z_icmp_ge (tgt := 67) hx hb dX6_isWithin_14 (by decide) (by omega) (fun c_14 => ?_) (fun c_14 => ?_)
  · refine lv_iload hx hb dX6_isWithin_67 (lv_at hl 4 rfl) ?_
    have hres : zB (zAll (fun k => decide (lo ≤ eRow xe r k ∧ eRow xe r k ≤ hi)) (xl r).toNat = true) = t := by rcases ht_ with ⟨q1, q2⟩ | ⟨q1, k, q2, q3, q4⟩; (rw [q1, zB_t ((zAll_iff _ _).mpr (fun k h1 h2 => decide_eq_true (q2 k h1 (by omega))))]); (rw [q1, zB_f (fun q => q4 (of_decide_eq_true ((zAll_iff _ _).mp q k q2 (by omega))))])
    exact z_iret hx hb hr hlocks (by rcases ht_ with ⟨q1, -⟩ | ⟨q1, -⟩ <;> rw [q1] <;> rfl) () (congrArg (fun z => some (Value.int (zI z))) hres) (trivial) z_nilP z_nilD hS dX6_isWithin_69
  · refine lv_iload hx hb dX6_isWithin_17 (lv_at hl 4 rfl) ?_
    refine z_if_eq (tgt := 58) hx hb dX6_isWithin_19 (by decide) (by omega) (fun c_19 => ?_) (fun c_19 => ?_)
    · refine z_iconst hx hb dX6_isWithin_58 ?_
      refine lv_istore (lv' := [(4, .int (zI 0)), (0, .ref h0), (1, .int (zI r)), (2, .int (zI lo)), (3, .int (zI hi)), (5, .int (zI j))]) hx hb dX6_isWithin_59 hl (by decide) rfl (fun ls hl => ?_)
      have hl := lv_sub hl [1, 2, 3, 4, 0, 5] rfl
      have hl : lv_has ls 6 [(0, .ref h0), (1, .int (zI r)), (2, .int (zI lo)), (3, .int (zI hi)), (4, .int (zI 0)), (5, .int (zI j))] := hl
      refine lv_iinc (v := zI (j + 1)) (lv' := [(5, .int (zI (j + 1))), (0, .ref h0), (1, .int (zI r)), (2, .int (zI lo)), (3, .int (zI hi)), (4, .int (zI 0))]) hx hb dX6_isWithin_61 hl (k := 5) rfl (zI_add _ _) (by decide) rfl (fun ls hl => ?_)
      have hl := lv_sub hl [1, 2, 3, 4, 5, 0] rfl
      have hl : lv_has ls 6 [(0, .ref h0), (1, .int (zI r)), (2, .int (zI lo)), (3, .int (zI hi)), (4, .int (zI 0)), (5, .int (zI (j + 1)))] := hl
      refine lv_goto (tgt := 6) hx hb dX6_isWithin_64 (by decide) ?_
      exact ih_6 (0, j + 1) _ _ _ ⟨(by omega), (by first | exact Or.inl ⟨rfl, fun k h1 h2 => by by_cases e : k = j; (subst e; exact ⟨by show lo ≤ xe (64 * r + k); omega, by show xe (64 * r + k) ≤ hi; omega⟩); exact (ht_.resolve_right (fun q => c_19 q.1)).2 k h1 (by omega)⟩ | exact Or.inr ⟨rfl, j, by omega, by omega, by show ¬ (lo ≤ xe (64 * r + j) ∧ xe (64 * r + j) ≤ hi); omega⟩ | exact (ht_.elim (fun q => absurd q.1 (by omega)) (fun q => Or.inr ⟨rfl, q.2.elim (fun k hk => ⟨k, hk.1, by omega, hk.2.2⟩)⟩))), hS, hl⟩ (by show (xl r - (j + 1)).toNat < (xl r - j).toNat; omega)
    · refine lv_aload_n hx hb dX6_isWithin_22 rfl (lv_at hl 0 rfl) ?_
      refine va_get (D := D) (ci := 5) (C := RX6) (T := TX6) (N := 8) hx hb hts hi6 hown hK hR 0 rfl rfl 0 (by decide) (hts (.fieldLink RX6 7 "ButterflyYardModel" "entries" "[I") (by decide +kernel)) (fun _ h9 => h9) rfl dX6_isWithin_23 ?_
      refine z_bipush hx hb dX6_isWithin_26 (by decide) ?_
      refine lv_iload_n hx hb dX6_isWithin_28 rfl (lv_at hl 1 rfl) ?_
      refine z_imul hx hb dX6_isWithin_29 ?_
      refine lv_iload hx hb dX6_isWithin_30 (lv_at hl 5 rfl) ?_
      refine z_iadd hx hb dX6_isWithin_32 ?_
      have hxi := hxe (64 * r + j) (by omega) (by omega)
      refine z_iald (cA := cI) (n := 256) (g := xe) hx hb hK hR 1 0 rfl rfl rfl (by omega) dX6_isWithin_33 ?_
      refine lv_iload_n hx hb dX6_isWithin_34 rfl (lv_at hl 2 rfl) ?_
      refine z_icmp_lt (tgt := 58) hx hb dX6_isWithin_35 (by decide) (by omega) (fun c_35 => ?_) (fun c_35 => ?_)
      · refine z_iconst hx hb dX6_isWithin_58 ?_
        refine lv_istore (lv' := [(4, .int (zI 0)), (0, .ref h0), (1, .int (zI r)), (2, .int (zI lo)), (3, .int (zI hi)), (5, .int (zI j))]) hx hb dX6_isWithin_59 hl (by decide) rfl (fun ls hl => ?_)
        have hl := lv_sub hl [1, 2, 3, 4, 0, 5] rfl
        have hl : lv_has ls 6 [(0, .ref h0), (1, .int (zI r)), (2, .int (zI lo)), (3, .int (zI hi)), (4, .int (zI 0)), (5, .int (zI j))] := hl
        refine lv_iinc (v := zI (j + 1)) (lv' := [(5, .int (zI (j + 1))), (0, .ref h0), (1, .int (zI r)), (2, .int (zI lo)), (3, .int (zI hi)), (4, .int (zI 0))]) hx hb dX6_isWithin_61 hl (k := 5) rfl (zI_add _ _) (by decide) rfl (fun ls hl => ?_)
        have hl := lv_sub hl [1, 2, 3, 4, 5, 0] rfl
        have hl : lv_has ls 6 [(0, .ref h0), (1, .int (zI r)), (2, .int (zI lo)), (3, .int (zI hi)), (4, .int (zI 0)), (5, .int (zI (j + 1)))] := hl
        refine lv_goto (tgt := 6) hx hb dX6_isWithin_64 (by decide) ?_
        exact ih_6 (0, j + 1) _ _ _ ⟨(by omega), (by first | exact Or.inl ⟨rfl, fun k h1 h2 => by by_cases e : k = j; (subst e; exact ⟨by show lo ≤ xe (64 * r + k); omega, by show xe (64 * r + k) ≤ hi; omega⟩); exact (ht_.resolve_right (fun q => c_19 q.1)).2 k h1 (by omega)⟩ | exact Or.inr ⟨rfl, j, by omega, by omega, by show ¬ (lo ≤ xe (64 * r + j) ∧ xe (64 * r + j) ≤ hi); omega⟩ | exact (ht_.elim (fun q => absurd q.1 (by omega)) (fun q => Or.inr ⟨rfl, q.2.elim (fun k hk => ⟨k, hk.1, by omega, hk.2.2⟩)⟩))), hS, hl⟩ (by show (xl r - (j + 1)).toNat < (xl r - j).toNat; omega)
      · refine lv_aload_n hx hb dX6_isWithin_38 rfl (lv_at hl 0 rfl) ?_
        refine va_get (D := D) (ci := 5) (C := RX6) (T := TX6) (N := 8) hx hb hts hi6 hown hK hR 0 rfl rfl 0 (by decide) (hts (.fieldLink RX6 7 "ButterflyYardModel" "entries" "[I") (by decide +kernel)) (fun _ h9 => h9) rfl dX6_isWithin_39 ?_
        refine z_bipush hx hb dX6_isWithin_42 (by decide) ?_
        refine lv_iload_n hx hb dX6_isWithin_44 rfl (lv_at hl 1 rfl) ?_
        refine z_imul hx hb dX6_isWithin_45 ?_
        refine lv_iload hx hb dX6_isWithin_46 (lv_at hl 5 rfl) ?_
        refine z_iadd hx hb dX6_isWithin_48 ?_
        refine z_iald (cA := cI) (n := 256) (g := xe) hx hb hK hR 1 0 rfl rfl rfl (by omega) dX6_isWithin_49 ?_
        refine lv_iload_n hx hb dX6_isWithin_50 rfl (lv_at hl 3 rfl) ?_
        refine z_icmp_gt (tgt := 58) hx hb dX6_isWithin_51 (by decide) (by omega) (fun c_51 => ?_) (fun c_51 => ?_)
        · refine z_iconst hx hb dX6_isWithin_58 ?_
          refine lv_istore (lv' := [(4, .int (zI 0)), (0, .ref h0), (1, .int (zI r)), (2, .int (zI lo)), (3, .int (zI hi)), (5, .int (zI j))]) hx hb dX6_isWithin_59 hl (by decide) rfl (fun ls hl => ?_)
          have hl := lv_sub hl [1, 2, 3, 4, 0, 5] rfl
          have hl : lv_has ls 6 [(0, .ref h0), (1, .int (zI r)), (2, .int (zI lo)), (3, .int (zI hi)), (4, .int (zI 0)), (5, .int (zI j))] := hl
          refine lv_iinc (v := zI (j + 1)) (lv' := [(5, .int (zI (j + 1))), (0, .ref h0), (1, .int (zI r)), (2, .int (zI lo)), (3, .int (zI hi)), (4, .int (zI 0))]) hx hb dX6_isWithin_61 hl (k := 5) rfl (zI_add _ _) (by decide) rfl (fun ls hl => ?_)
          have hl := lv_sub hl [1, 2, 3, 4, 5, 0] rfl
          have hl : lv_has ls 6 [(0, .ref h0), (1, .int (zI r)), (2, .int (zI lo)), (3, .int (zI hi)), (4, .int (zI 0)), (5, .int (zI (j + 1)))] := hl
          refine lv_goto (tgt := 6) hx hb dX6_isWithin_64 (by decide) ?_
          exact ih_6 (0, j + 1) _ _ _ ⟨(by omega), (by first | exact Or.inl ⟨rfl, fun k h1 h2 => by by_cases e : k = j; (subst e; exact ⟨by show lo ≤ xe (64 * r + k); omega, by show xe (64 * r + k) ≤ hi; omega⟩); exact (ht_.resolve_right (fun q => c_19 q.1)).2 k h1 (by omega)⟩ | exact Or.inr ⟨rfl, j, by omega, by omega, by show ¬ (lo ≤ xe (64 * r + j) ∧ xe (64 * r + j) ≤ hi); omega⟩ | exact (ht_.elim (fun q => absurd q.1 (by omega)) (fun q => Or.inr ⟨rfl, q.2.elim (fun k hk => ⟨k, hk.1, by omega, hk.2.2⟩)⟩))), hS, hl⟩ (by show (xl r - (j + 1)).toNat < (xl r - j).toNat; omega)
        · refine z_iconst hx hb dX6_isWithin_54 ?_
          refine lv_goto (tgt := 59) hx hb dX6_isWithin_55 (by decide) ?_
          refine lv_istore (lv' := [(4, .int (zI 1)), (0, .ref h0), (1, .int (zI r)), (2, .int (zI lo)), (3, .int (zI hi)), (5, .int (zI j))]) hx hb dX6_isWithin_59 hl (by decide) rfl (fun ls hl => ?_)
          have hl := lv_sub hl [1, 2, 3, 4, 0, 5] rfl
          have hl : lv_has ls 6 [(0, .ref h0), (1, .int (zI r)), (2, .int (zI lo)), (3, .int (zI hi)), (4, .int (zI 1)), (5, .int (zI j))] := hl
          refine lv_iinc (v := zI (j + 1)) (lv' := [(5, .int (zI (j + 1))), (0, .ref h0), (1, .int (zI r)), (2, .int (zI lo)), (3, .int (zI hi)), (4, .int (zI 1))]) hx hb dX6_isWithin_61 hl (k := 5) rfl (zI_add _ _) (by decide) rfl (fun ls hl => ?_)
          have hl := lv_sub hl [1, 2, 3, 4, 5, 0] rfl
          have hl : lv_has ls 6 [(0, .ref h0), (1, .int (zI r)), (2, .int (zI lo)), (3, .int (zI hi)), (4, .int (zI 1)), (5, .int (zI (j + 1)))] := hl
          refine lv_goto (tgt := 6) hx hb dX6_isWithin_64 (by decide) ?_
          exact ih_6 (1, j + 1) _ _ _ ⟨(by omega), (by first | exact Or.inl ⟨rfl, fun k h1 h2 => by by_cases e : k = j; (subst e; exact ⟨by show lo ≤ xe (64 * r + k); omega, by show xe (64 * r + k) ≤ hi; omega⟩); exact (ht_.resolve_right (fun q => c_19 q.1)).2 k h1 (by omega)⟩ | exact Or.inr ⟨rfl, j, by omega, by omega, by show ¬ (lo ≤ xe (64 * r + j) ∧ xe (64 * r + j) ≤ hi); omega⟩ | exact (ht_.elim (fun q => absurd q.1 (by omega)) (fun q => Or.inr ⟨rfl, q.2.elim (fun k hk => ⟨k, hk.1, by omega, hk.2.2⟩)⟩))), hS, hl⟩ (by show (xl r - (j + 1)).toNat < (xl r - j).toNat; omega)

set_option maxHeartbeats 4000000 in
set_option maxRecDepth 100000 in
theorem c_X6_lineAt (l : Launch) (D : va_G) (cI : ClassId) (h0 : Nat) (ae : Nat) (al : Nat) (ap : Nat) (az : Nat) (ar : Nat) (am : Nat) (np : Int) (th : Int) (xe : Int → Int) (xl : Int → Int) (a : Int) (b : Int) (k : Int) (hr_a : 0 ≤ a ∧ a < 4) (hr_b : 0 ≤ b ∧ b < 4) (hxl_a : 0 ≤ xl a ∧ xl a ≤ 64) (hxl_b : 0 ≤ xl b ∧ xl b ≤ 64) (hxe : ∀ k, 0 ≤ k → k < 256 → -1000000 ≤ xe k ∧ xe k ≤ 1000000) (hk_ : 0 ≤ k ∧ k ≤ 200) : zF l yX6_lineAt wsX6_lineAt ({ frames := 0, cells := 0, slots := 0, locals := 0 } : Room) D [(cI, .int)] [(h0, .inr (5, [.ref ae, .ref al, .ref ap, .ref az, .ref ar, .int (zI np), .ref am, .int (zI th)])), (ae, .inl (cI, 256, .inl (zA xe))), (al, .inl (cI, 4, .inl (zA xl)))] [.ref h0, .int (zI a), .int (zI b), .int (zI k)] (some (.int (zI (lin (eRow xe a) (xl a) (eRow xe b) (xl b) k)))) := by
  refine z_start (cc := cX6_lineAt) (maxL := 7) (ret := (some .int)) (own := RX6) (by decide) rfl rfl (Nat.le_of_ble_eq_true rfl) [(0, .ref h0), (1, .int (zI a)), (2, .int (zI b)), (3, .int (zI k))] rfl ?_
  intro pp ee s mm below meth cc A H ls hx hb hr hml hts hown hlocks hin hK hA hP hD hS hR0 hR hl
  have CF : CallFix pp mm cc cX6_lineAt 7 s ([.ref h0, .int (zI a), .int (zI b), .int (zI k)] : List Value).toArray wsX6_lineAt RX6 := ⟨hx, hb, hml, hown, hts⟩
  have hi6 : ∀ w ∈ wsX60, w ∈ wsX6_lineAt := by decide +kernel
  refine z_iconst hx hb dX6_lineAt_0 ?_
  refine lv_istore (lv' := [(4, .int (zI 0)), (0, .ref h0), (1, .int (zI a)), (2, .int (zI b)), (3, .int (zI k))]) hx hb dX6_lineAt_1 hl (by decide) rfl (fun ls hl => ?_)
  have hl := lv_sub hl [1, 2, 3, 4, 0] rfl
  have hl : lv_has ls 7 [(0, .ref h0), (1, .int (zI a)), (2, .int (zI b)), (3, .int (zI k)), (4, .int (zI 0))] := hl
  refine z_iconst hx hb dX6_lineAt_3 ?_
  refine lv_istore (lv' := [(5, .int (zI 0)), (0, .ref h0), (1, .int (zI a)), (2, .int (zI b)), (3, .int (zI k)), (4, .int (zI 0))]) hx hb dX6_lineAt_4 hl (by decide) rfl (fun ls hl => ?_)
  have hl := lv_sub hl [1, 2, 3, 4, 5, 0] rfl
  have hl : lv_has ls 7 [(0, .ref h0), (1, .int (zI a)), (2, .int (zI b)), (3, .int (zI k)), (4, .int (zI 0)), (5, .int (zI 0))] := hl
  refine z_loop (σ := Int × Int) (fun (t, j) => (xl a - j).toNat) (fun (t, j) H locs ls => (0 ≤ j ∧ j ≤ xl a) ∧ t = zT (fun j => rowAt (eRow xe a) (xl a) j * rowAt (eRow xe b) (xl b) (k - j)) j ∧ va_S A s.heap H locs ∧ lv_has ls 7 [(0, .ref h0), (1, .int (zI a)), (2, .int (zI b)), (3, .int (zI k)), (4, .int (zI t)), (5, .int (zI j))]) (0, 0) ⟨(by omega), (by rfl), hS, hl⟩ ?_
  intro ⟨t, j⟩ H locs ls hI ih_6
  obtain ⟨hj_, ht_, hS, hl⟩ := hI
  have hR := hR0.at hS
  refine lv_iload hx hb dX6_lineAt_6 (lv_at hl 5 rfl) ?_
  refine lv_aload_n hx hb dX6_lineAt_8 rfl (lv_at hl 0 rfl) ?_
  refine va_get (D := D) (ci := 5) (C := RX6) (T := TX6) (N := 8) hx hb hts hi6 hown hK hR 0 rfl rfl 1 (by decide) (hts (.fieldLink RX6 13 "ButterflyYardModel" "lengths" "[I") (by decide +kernel)) (fun _ h9 => h9) rfl dX6_lineAt_9 ?_
  refine lv_iload_n hx hb dX6_lineAt_12 rfl (lv_at hl 1 rfl) ?_
  refine z_iald (cA := cI) (n := 4) (g := xl) hx hb hK hR 2 0 rfl rfl rfl (by omega) dX6_lineAt_13 ?_
  refine z_icmp_ge (tgt := 79) hx hb dX6_lineAt_14 (by decide) (by omega) (fun c_14 => ?_) (fun c_14 => ?_)
  · refine lv_iload hx hb dX6_lineAt_79 (lv_at hl 4 rfl) ?_
    have hres : lin (eRow xe a) (xl a) (eRow xe b) (xl b) k = t := by rw [ht_, show j = xl a by omega]; rfl
    exact z_iret hx hb hr hlocks rfl () (congrArg (fun z => some (Value.int (zI z))) hres) (trivial) z_nilP z_nilD hS dX6_lineAt_81
  · refine lv_iload_n hx hb dX6_lineAt_17 rfl (lv_at hl 3 rfl) ?_
    refine lv_iload hx hb dX6_lineAt_18 (lv_at hl 5 rfl) ?_
    refine z_isub hx hb dX6_lineAt_20 ?_
    refine lv_istore (lv' := [(6, .int (zI (k - j))), (0, .ref h0), (1, .int (zI a)), (2, .int (zI b)), (3, .int (zI k)), (4, .int (zI t)), (5, .int (zI j))]) hx hb dX6_lineAt_21 hl (by decide) rfl (fun ls hl => ?_)
    have hl := lv_sub hl [1, 2, 3, 4, 5, 6, 0] rfl
    have hl : lv_has ls 7 [(0, .ref h0), (1, .int (zI a)), (2, .int (zI b)), (3, .int (zI k)), (4, .int (zI t)), (5, .int (zI j)), (6, .int (zI (k - j)))] := hl
    refine lv_iload hx hb dX6_lineAt_23 (lv_at hl 4 rfl) ?_
    refine lv_iload hx hb dX6_lineAt_25 (lv_at hl 6 rfl) ?_
    refine z_if_lt (tgt := 69) hx hb dX6_lineAt_27 (by decide) (by omega) (fun c_27 => ?_) (fun c_27 => ?_)
    · refine z_iconst hx hb dX6_lineAt_69 ?_
      refine z_iadd hx hb dX6_lineAt_70 ?_
      refine lv_istore (lv' := [(4, .int (zI (t + 0))), (0, .ref h0), (1, .int (zI a)), (2, .int (zI b)), (3, .int (zI k)), (5, .int (zI j)), (6, .int (zI (k - j)))]) hx hb dX6_lineAt_71 hl (by decide) rfl (fun ls hl => ?_)
      have hl := lv_sub hl [1, 2, 3, 4, 0, 5, 6] rfl
      have hl : lv_has ls 7 [(0, .ref h0), (1, .int (zI a)), (2, .int (zI b)), (3, .int (zI k)), (4, .int (zI (t + 0))), (5, .int (zI j)), (6, .int (zI (k - j)))] := hl
      refine lv_iinc (v := zI (j + 1)) (lv' := [(5, .int (zI (j + 1))), (0, .ref h0), (1, .int (zI a)), (2, .int (zI b)), (3, .int (zI k)), (4, .int (zI (t + 0))), (6, .int (zI (k - j)))]) hx hb dX6_lineAt_73 hl (k := 5) rfl (zI_add _ _) (by decide) rfl (fun ls hl => ?_)
      have hl := lv_sub hl [1, 2, 3, 4, 5, 0, 6] rfl
      have hl : lv_has ls 7 [(0, .ref h0), (1, .int (zI a)), (2, .int (zI b)), (3, .int (zI k)), (4, .int (zI (t + 0))), (5, .int (zI (j + 1))), (6, .int (zI (k - j)))] := hl
      refine lv_goto (tgt := 6) hx hb dX6_lineAt_76 (by decide) ?_
      exact ih_6 (t + 0, j + 1) _ _ _ ⟨(by omega), (by rw [ht_, zT_s _ hj_.1]; first | (rw [rowAt_out (g := eRow xe b) (c := xl b) (k := k - j) (by omega)]; omega) | (rw [rowAt_in (g := eRow xe b) (c := xl b) (k := k - j) (by omega), rowAt_in (g := eRow xe a) (c := xl a) (k := j) (by omega)]; rfl)), hS, lv_sub hl [0, 1, 2, 3, 4, 5] rfl⟩ (by show (xl a - (j + 1)).toNat < (xl a - j).toNat; omega)
    · refine lv_iload hx hb dX6_lineAt_30 (lv_at hl 6 rfl) ?_
      refine lv_aload_n hx hb dX6_lineAt_32 rfl (lv_at hl 0 rfl) ?_
      refine va_get (D := D) (ci := 5) (C := RX6) (T := TX6) (N := 8) hx hb hts hi6 hown hK hR 0 rfl rfl 1 (by decide) (hts (.fieldLink RX6 13 "ButterflyYardModel" "lengths" "[I") (by decide +kernel)) (fun _ h9 => h9) rfl dX6_lineAt_33 ?_
      refine lv_iload_n hx hb dX6_lineAt_36 rfl (lv_at hl 2 rfl) ?_
      refine z_iald (cA := cI) (n := 4) (g := xl) hx hb hK hR 2 0 rfl rfl rfl (by omega) dX6_lineAt_37 ?_
      refine z_icmp_ge (tgt := 69) hx hb dX6_lineAt_38 (by decide) (by omega) (fun c_38 => ?_) (fun c_38 => ?_)
      · refine z_iconst hx hb dX6_lineAt_69 ?_
        refine z_iadd hx hb dX6_lineAt_70 ?_
        refine lv_istore (lv' := [(4, .int (zI (t + 0))), (0, .ref h0), (1, .int (zI a)), (2, .int (zI b)), (3, .int (zI k)), (5, .int (zI j)), (6, .int (zI (k - j)))]) hx hb dX6_lineAt_71 hl (by decide) rfl (fun ls hl => ?_)
        have hl := lv_sub hl [1, 2, 3, 4, 0, 5, 6] rfl
        have hl : lv_has ls 7 [(0, .ref h0), (1, .int (zI a)), (2, .int (zI b)), (3, .int (zI k)), (4, .int (zI (t + 0))), (5, .int (zI j)), (6, .int (zI (k - j)))] := hl
        refine lv_iinc (v := zI (j + 1)) (lv' := [(5, .int (zI (j + 1))), (0, .ref h0), (1, .int (zI a)), (2, .int (zI b)), (3, .int (zI k)), (4, .int (zI (t + 0))), (6, .int (zI (k - j)))]) hx hb dX6_lineAt_73 hl (k := 5) rfl (zI_add _ _) (by decide) rfl (fun ls hl => ?_)
        have hl := lv_sub hl [1, 2, 3, 4, 5, 0, 6] rfl
        have hl : lv_has ls 7 [(0, .ref h0), (1, .int (zI a)), (2, .int (zI b)), (3, .int (zI k)), (4, .int (zI (t + 0))), (5, .int (zI (j + 1))), (6, .int (zI (k - j)))] := hl
        refine lv_goto (tgt := 6) hx hb dX6_lineAt_76 (by decide) ?_
        exact ih_6 (t + 0, j + 1) _ _ _ ⟨(by omega), (by rw [ht_, zT_s _ hj_.1]; first | (rw [rowAt_out (g := eRow xe b) (c := xl b) (k := k - j) (by omega)]; omega) | (rw [rowAt_in (g := eRow xe b) (c := xl b) (k := k - j) (by omega), rowAt_in (g := eRow xe a) (c := xl a) (k := j) (by omega)]; rfl)), hS, lv_sub hl [0, 1, 2, 3, 4, 5] rfl⟩ (by show (xl a - (j + 1)).toNat < (xl a - j).toNat; omega)
      · refine lv_aload_n hx hb dX6_lineAt_41 rfl (lv_at hl 0 rfl) ?_
        refine va_get (D := D) (ci := 5) (C := RX6) (T := TX6) (N := 8) hx hb hts hi6 hown hK hR 0 rfl rfl 0 (by decide) (hts (.fieldLink RX6 7 "ButterflyYardModel" "entries" "[I") (by decide +kernel)) (fun _ h9 => h9) rfl dX6_lineAt_42 ?_
        refine z_bipush hx hb dX6_lineAt_45 (by decide) ?_
        refine lv_iload_n hx hb dX6_lineAt_47 rfl (lv_at hl 1 rfl) ?_
        refine z_imul hx hb dX6_lineAt_48 ?_
        refine lv_iload hx hb dX6_lineAt_49 (lv_at hl 5 rfl) ?_
        refine z_iadd hx hb dX6_lineAt_51 ?_
        refine z_iald (cA := cI) (n := 256) (g := xe) hx hb hK hR 1 0 rfl rfl rfl (by omega) dX6_lineAt_52 ?_
        refine lv_aload_n hx hb dX6_lineAt_53 rfl (lv_at hl 0 rfl) ?_
        refine va_get (D := D) (ci := 5) (C := RX6) (T := TX6) (N := 8) hx hb hts hi6 hown hK hR 0 rfl rfl 0 (by decide) (hts (.fieldLink RX6 7 "ButterflyYardModel" "entries" "[I") (by decide +kernel)) (fun _ h9 => h9) rfl dX6_lineAt_54 ?_
        refine z_bipush hx hb dX6_lineAt_57 (by decide) ?_
        refine lv_iload_n hx hb dX6_lineAt_59 rfl (lv_at hl 2 rfl) ?_
        refine z_imul hx hb dX6_lineAt_60 ?_
        refine lv_iload hx hb dX6_lineAt_61 (lv_at hl 6 rfl) ?_
        refine z_iadd hx hb dX6_lineAt_63 ?_
        refine z_iald (cA := cI) (n := 256) (g := xe) hx hb hK hR 1 0 rfl rfl rfl (by omega) dX6_lineAt_64 ?_
        refine z_imul hx hb dX6_lineAt_65 ?_
        refine lv_goto (tgt := 70) hx hb dX6_lineAt_66 (by decide) ?_
        refine z_iadd hx hb dX6_lineAt_70 ?_
        refine lv_istore (lv' := [(4, .int (zI (t + ((xe ((64 * a) + j)) * (xe ((64 * b) + (k - j))))))), (0, .ref h0), (1, .int (zI a)), (2, .int (zI b)), (3, .int (zI k)), (5, .int (zI j)), (6, .int (zI (k - j)))]) hx hb dX6_lineAt_71 hl (by decide) rfl (fun ls hl => ?_)
        have hl := lv_sub hl [1, 2, 3, 4, 0, 5, 6] rfl
        have hl : lv_has ls 7 [(0, .ref h0), (1, .int (zI a)), (2, .int (zI b)), (3, .int (zI k)), (4, .int (zI (t + ((xe ((64 * a) + j)) * (xe ((64 * b) + (k - j))))))), (5, .int (zI j)), (6, .int (zI (k - j)))] := hl
        refine lv_iinc (v := zI (j + 1)) (lv' := [(5, .int (zI (j + 1))), (0, .ref h0), (1, .int (zI a)), (2, .int (zI b)), (3, .int (zI k)), (4, .int (zI (t + ((xe ((64 * a) + j)) * (xe ((64 * b) + (k - j))))))), (6, .int (zI (k - j)))]) hx hb dX6_lineAt_73 hl (k := 5) rfl (zI_add _ _) (by decide) rfl (fun ls hl => ?_)
        have hl := lv_sub hl [1, 2, 3, 4, 5, 0, 6] rfl
        have hl : lv_has ls 7 [(0, .ref h0), (1, .int (zI a)), (2, .int (zI b)), (3, .int (zI k)), (4, .int (zI (t + ((xe ((64 * a) + j)) * (xe ((64 * b) + (k - j))))))), (5, .int (zI (j + 1))), (6, .int (zI (k - j)))] := hl
        refine lv_goto (tgt := 6) hx hb dX6_lineAt_76 (by decide) ?_
        exact ih_6 (t + ((xe ((64 * a) + j)) * (xe ((64 * b) + (k - j)))), j + 1) _ _ _ ⟨(by omega), (by rw [ht_, zT_s _ hj_.1]; first | (rw [rowAt_out (g := eRow xe b) (c := xl b) (k := k - j) (by omega)]; omega) | (rw [rowAt_in (g := eRow xe b) (c := xl b) (k := k - j) (by omega), rowAt_in (g := eRow xe a) (c := xl a) (k := j) (by omega)]; rfl)), hS, lv_sub hl [0, 1, 2, 3, 4, 5] rfl⟩ (by show (xl a - (j + 1)).toNat < (xl a - j).toNat; omega)

set_option maxHeartbeats 4000000 in
set_option maxRecDepth 100000 in
theorem c_X6_filter_1a (l : Launch) (D : va_G) (cI : ClassId) (h0 : Nat) (ae : Nat) (al : Nat) (ap : Nat) (az : Nat) (ar : Nat) (am : Nat) (np : Int) (th : Int) (a : Int) (b : Int) (t : Int) (bl : Int) (sv : Int) (ha_a : -2147483648 ≤ a ∧ a ≤ 2147483647) (ha_b : -2147483648 ≤ b ∧ b ≤ 2147483647) (ha_t : -2147483648 ≤ t ∧ t ≤ 2147483647) (ha_bl : -2147483648 ≤ bl ∧ bl ≤ 2147483647) (ha_sv : -2147483648 ≤ sv ∧ sv ≤ 2147483647) (hnp_ : 0 ≤ np ∧ np ≤ 8) (hb_a : ¬ (0 ≤ a ∧ a < 4)) : zC l yX6_filter wsX6_filter ({ frames := 1, cells := 0, slots := 0, locals := 20 } : Room) D [(cI, .int)] [(h0, .inr (5, [.ref ae, .ref al, .ref ap, .ref az, .ref ar, .int (zI np), .ref am, .int (zI th)]))] [] [.ref h0, .int (zI a), .int (zI b), .int (zI t), .int (zI bl), .int (zI sv)] (S := Unit) (fun u => True) (fun u => some (.int (zI 0))) (fun u => [(h0, .inr (5, [.ref ae, .ref al, .ref ap, .ref az, .ref ar, .int (zI np), .ref am, .int (zI 1)]))]) := by
  refine z_start (cc := cX6_filter) (maxL := 9) (ret := (some .int)) (own := RX6) (by decide) rfl rfl (Nat.le_of_ble_eq_true rfl) [(0, .ref h0), (1, .int (zI a)), (2, .int (zI b)), (3, .int (zI t)), (4, .int (zI bl)), (5, .int (zI sv))] rfl ?_
  intro pp ee s mm below meth cc A H ls hx hb hr hml hts hown hlocks hin hK hA hP hD hS hR0 hR hl
  have CF : CallFix pp mm cc cX6_filter 9 s ([.ref h0, .int (zI a), .int (zI b), .int (zI t), .int (zI bl), .int (zI sv)] : List Value).toArray wsX6_filter RX6 := ⟨hx, hb, hml, hown, hts⟩
  have hi6 : ∀ w ∈ wsX60, w ∈ wsX6_filter := by decide +kernel
  refine lv_iload_n hx hb dX6_filter_0 rfl (lv_at hl 1 rfl) ?_
  have hRc : va_P D vwCl [] H := z_nilP
  refine z_ro (ws := [(h0, .inr (5, [.ref ae, .ref al, .ref ap, .ref az, .ref ar, .int (zI np), .ref am, .int (zI th)]))]) (va_runS (As := [.int (zI a)]) (rest := []) CF (c_X6_isRow l D a (by omega) H.size) (va_cwS 1 hts gX6_filter_X6_isRow rfl rfl rfl (by decide +kernel) ⟨Nat.le_of_ble_eq_true rfl, Nat.le_of_ble_eq_true rfl⟩) (z_preS z_nilP (z_nilD (A := A)) hRc z_noX (hK.sub (tys' := []) [] rfl)) rfl rfl hl.1 rfl (lv_room (Nat.le_of_ble_eq_true rfl)) dX6_filter_1 ⟨Nat.le_of_ble_eq_true rfl, Nat.le_of_ble_eq_true rfl⟩) hP hS hA (cells' := 0) (slots' := 0) rfl rfl (fun H locs hP hS => ?_)
  refine z_ifB_eq (tgt := 21) hx hb dX6_filter_4 (by decide) (fun c_4 => ?_) (fun c_4 => absurd c_4 (by omega))
  refine lv_aload_n hx hb dX6_filter_21 rfl (lv_at hl 0 rfl) ?_
  refine z_iconst hx hb dX6_filter_22 ?_
  refine va_put (D := D) (ci := 5) (v := .int (zI 1)) (ty := .int) (C := RX6) (T := TX6) (N := 8) hx hb hts hi6 tyX6 tyX6_ok nmX6 hown hK hP hD hS 0 rfl rfl 7 (by decide) (hts (.fieldLink RX6 28 "ButterflyYardModel" "thrown" "I") (by decide +kernel)) (fun _ h9 => h9) rfl (by decide +kernel) rfl rfl (Nat.le_of_ble_eq_true rfl) dX6_filter_23 (fun H locs hP hD hS => ?_)
  have hP : va_P D vwCl [(h0, .inr (5, [.ref ae, .ref al, .ref ap, .ref az, .ref ar, .int (zI np), .ref am, .int (zI 1)]))] H := hP
  have hD : va_D A [(h0, .inr (5, [.ref ae, .ref al, .ref ap, .ref az, .ref ar, .int (zI np), .ref am, .int (zI 1)]))] := hD
  refine z_iconst hx hb dX6_filter_26 ?_
  exact z_iret hx hb hr hlocks rfl () (rfl) (trivial) hP hD hS dX6_filter_27

set_option maxHeartbeats 4000000 in
set_option maxRecDepth 100000 in
theorem c_X6_filter_1b (l : Launch) (D : va_G) (cI : ClassId) (h0 : Nat) (ae : Nat) (al : Nat) (ap : Nat) (az : Nat) (ar : Nat) (am : Nat) (np : Int) (th : Int) (a : Int) (b : Int) (t : Int) (bl : Int) (sv : Int) (ha_a : -2147483648 ≤ a ∧ a ≤ 2147483647) (ha_b : -2147483648 ≤ b ∧ b ≤ 2147483647) (ha_t : -2147483648 ≤ t ∧ t ≤ 2147483647) (ha_bl : -2147483648 ≤ bl ∧ bl ≤ 2147483647) (ha_sv : -2147483648 ≤ sv ∧ sv ≤ 2147483647) (hnp_ : 0 ≤ np ∧ np ≤ 8) (hr_a : 0 ≤ a ∧ a < 4) (hb_b : ¬ (0 ≤ b ∧ b < 4)) : zC l yX6_filter wsX6_filter ({ frames := 1, cells := 0, slots := 0, locals := 20 } : Room) D [(cI, .int)] [(h0, .inr (5, [.ref ae, .ref al, .ref ap, .ref az, .ref ar, .int (zI np), .ref am, .int (zI th)]))] [] [.ref h0, .int (zI a), .int (zI b), .int (zI t), .int (zI bl), .int (zI sv)] (S := Unit) (fun u => True) (fun u => some (.int (zI 0))) (fun u => [(h0, .inr (5, [.ref ae, .ref al, .ref ap, .ref az, .ref ar, .int (zI np), .ref am, .int (zI 1)]))]) := by
  refine z_start (cc := cX6_filter) (maxL := 9) (ret := (some .int)) (own := RX6) (by decide) rfl rfl (Nat.le_of_ble_eq_true rfl) [(0, .ref h0), (1, .int (zI a)), (2, .int (zI b)), (3, .int (zI t)), (4, .int (zI bl)), (5, .int (zI sv))] rfl ?_
  intro pp ee s mm below meth cc A H ls hx hb hr hml hts hown hlocks hin hK hA hP hD hS hR0 hR hl
  have CF : CallFix pp mm cc cX6_filter 9 s ([.ref h0, .int (zI a), .int (zI b), .int (zI t), .int (zI bl), .int (zI sv)] : List Value).toArray wsX6_filter RX6 := ⟨hx, hb, hml, hown, hts⟩
  have hi6 : ∀ w ∈ wsX60, w ∈ wsX6_filter := by decide +kernel
  refine lv_iload_n hx hb dX6_filter_0 rfl (lv_at hl 1 rfl) ?_
  have hRc : va_P D vwCl [] H := z_nilP
  refine z_ro (ws := [(h0, .inr (5, [.ref ae, .ref al, .ref ap, .ref az, .ref ar, .int (zI np), .ref am, .int (zI th)]))]) (va_runS (As := [.int (zI a)]) (rest := []) CF (c_X6_isRow l D a (by omega) H.size) (va_cwS 1 hts gX6_filter_X6_isRow rfl rfl rfl (by decide +kernel) ⟨Nat.le_of_ble_eq_true rfl, Nat.le_of_ble_eq_true rfl⟩) (z_preS z_nilP (z_nilD (A := A)) hRc z_noX (hK.sub (tys' := []) [] rfl)) rfl rfl hl.1 rfl (lv_room (Nat.le_of_ble_eq_true rfl)) dX6_filter_1 ⟨Nat.le_of_ble_eq_true rfl, Nat.le_of_ble_eq_true rfl⟩) hP hS hA (cells' := 0) (slots' := 0) rfl rfl (fun H locs hP hS => ?_)
  refine z_ifB_eq (tgt := 21) hx hb dX6_filter_4 (by decide) (fun c_4 => absurd c_4 (by omega)) (fun c_4 => ?_)
  refine lv_iload_n hx hb dX6_filter_7 rfl (lv_at hl 2 rfl) ?_
  have hRc : va_P D vwCl [] H := z_nilP
  refine z_ro (ws := [(h0, .inr (5, [.ref ae, .ref al, .ref ap, .ref az, .ref ar, .int (zI np), .ref am, .int (zI th)]))]) (va_runS (As := [.int (zI b)]) (rest := []) CF (c_X6_isRow l D b (by omega) H.size) (va_cwS 1 hts gX6_filter_X6_isRow rfl rfl rfl (by decide +kernel) ⟨Nat.le_of_ble_eq_true rfl, Nat.le_of_ble_eq_true rfl⟩) (z_preS z_nilP (z_nilD (A := A)) hRc z_noX (hK.sub (tys' := []) [] rfl)) rfl rfl hl.1 rfl (lv_room (Nat.le_of_ble_eq_true rfl)) dX6_filter_8 ⟨Nat.le_of_ble_eq_true rfl, Nat.le_of_ble_eq_true rfl⟩) hP hS hA (cells' := 0) (slots' := 0) rfl rfl (fun H locs hP hS => ?_)
  refine z_ifB_eq (tgt := 21) hx hb dX6_filter_11 (by decide) (fun c_11 => ?_) (fun c_11 => absurd c_11 (by omega))
  refine lv_aload_n hx hb dX6_filter_21 rfl (lv_at hl 0 rfl) ?_
  refine z_iconst hx hb dX6_filter_22 ?_
  refine va_put (D := D) (ci := 5) (v := .int (zI 1)) (ty := .int) (C := RX6) (T := TX6) (N := 8) hx hb hts hi6 tyX6 tyX6_ok nmX6 hown hK hP hD hS 0 rfl rfl 7 (by decide) (hts (.fieldLink RX6 28 "ButterflyYardModel" "thrown" "I") (by decide +kernel)) (fun _ h9 => h9) rfl (by decide +kernel) rfl rfl (Nat.le_of_ble_eq_true rfl) dX6_filter_23 (fun H locs hP hD hS => ?_)
  have hP : va_P D vwCl [(h0, .inr (5, [.ref ae, .ref al, .ref ap, .ref az, .ref ar, .int (zI np), .ref am, .int (zI 1)]))] H := hP
  have hD : va_D A [(h0, .inr (5, [.ref ae, .ref al, .ref ap, .ref az, .ref ar, .int (zI np), .ref am, .int (zI 1)]))] := hD
  refine z_iconst hx hb dX6_filter_26 ?_
  exact z_iret hx hb hr hlocks rfl () (rfl) (trivial) hP hD hS dX6_filter_27

set_option maxHeartbeats 4000000 in
set_option maxRecDepth 100000 in
theorem c_X6_filter_1c (l : Launch) (D : va_G) (cI : ClassId) (h0 : Nat) (ae : Nat) (al : Nat) (ap : Nat) (az : Nat) (ar : Nat) (am : Nat) (np : Int) (th : Int) (a : Int) (b : Int) (t : Int) (bl : Int) (sv : Int) (ha_a : -2147483648 ≤ a ∧ a ≤ 2147483647) (ha_b : -2147483648 ≤ b ∧ b ≤ 2147483647) (ha_t : -2147483648 ≤ t ∧ t ≤ 2147483647) (ha_bl : -2147483648 ≤ bl ∧ bl ≤ 2147483647) (ha_sv : -2147483648 ≤ sv ∧ sv ≤ 2147483647) (hnp_ : 0 ≤ np ∧ np ≤ 8) (hr_a : 0 ≤ a ∧ a < 4) (hr_b : 0 ≤ b ∧ b < 4) (hb_t : ¬ (0 ≤ t ∧ t < 4)) : zC l yX6_filter wsX6_filter ({ frames := 1, cells := 0, slots := 0, locals := 20 } : Room) D [(cI, .int)] [(h0, .inr (5, [.ref ae, .ref al, .ref ap, .ref az, .ref ar, .int (zI np), .ref am, .int (zI th)]))] [] [.ref h0, .int (zI a), .int (zI b), .int (zI t), .int (zI bl), .int (zI sv)] (S := Unit) (fun u => True) (fun u => some (.int (zI 0))) (fun u => [(h0, .inr (5, [.ref ae, .ref al, .ref ap, .ref az, .ref ar, .int (zI np), .ref am, .int (zI 1)]))]) := by
  refine z_start (cc := cX6_filter) (maxL := 9) (ret := (some .int)) (own := RX6) (by decide) rfl rfl (Nat.le_of_ble_eq_true rfl) [(0, .ref h0), (1, .int (zI a)), (2, .int (zI b)), (3, .int (zI t)), (4, .int (zI bl)), (5, .int (zI sv))] rfl ?_
  intro pp ee s mm below meth cc A H ls hx hb hr hml hts hown hlocks hin hK hA hP hD hS hR0 hR hl
  have CF : CallFix pp mm cc cX6_filter 9 s ([.ref h0, .int (zI a), .int (zI b), .int (zI t), .int (zI bl), .int (zI sv)] : List Value).toArray wsX6_filter RX6 := ⟨hx, hb, hml, hown, hts⟩
  have hi6 : ∀ w ∈ wsX60, w ∈ wsX6_filter := by decide +kernel
  refine lv_iload_n hx hb dX6_filter_0 rfl (lv_at hl 1 rfl) ?_
  have hRc : va_P D vwCl [] H := z_nilP
  refine z_ro (ws := [(h0, .inr (5, [.ref ae, .ref al, .ref ap, .ref az, .ref ar, .int (zI np), .ref am, .int (zI th)]))]) (va_runS (As := [.int (zI a)]) (rest := []) CF (c_X6_isRow l D a (by omega) H.size) (va_cwS 1 hts gX6_filter_X6_isRow rfl rfl rfl (by decide +kernel) ⟨Nat.le_of_ble_eq_true rfl, Nat.le_of_ble_eq_true rfl⟩) (z_preS z_nilP (z_nilD (A := A)) hRc z_noX (hK.sub (tys' := []) [] rfl)) rfl rfl hl.1 rfl (lv_room (Nat.le_of_ble_eq_true rfl)) dX6_filter_1 ⟨Nat.le_of_ble_eq_true rfl, Nat.le_of_ble_eq_true rfl⟩) hP hS hA (cells' := 0) (slots' := 0) rfl rfl (fun H locs hP hS => ?_)
  refine z_ifB_eq (tgt := 21) hx hb dX6_filter_4 (by decide) (fun c_4 => absurd c_4 (by omega)) (fun c_4 => ?_)
  refine lv_iload_n hx hb dX6_filter_7 rfl (lv_at hl 2 rfl) ?_
  have hRc : va_P D vwCl [] H := z_nilP
  refine z_ro (ws := [(h0, .inr (5, [.ref ae, .ref al, .ref ap, .ref az, .ref ar, .int (zI np), .ref am, .int (zI th)]))]) (va_runS (As := [.int (zI b)]) (rest := []) CF (c_X6_isRow l D b (by omega) H.size) (va_cwS 1 hts gX6_filter_X6_isRow rfl rfl rfl (by decide +kernel) ⟨Nat.le_of_ble_eq_true rfl, Nat.le_of_ble_eq_true rfl⟩) (z_preS z_nilP (z_nilD (A := A)) hRc z_noX (hK.sub (tys' := []) [] rfl)) rfl rfl hl.1 rfl (lv_room (Nat.le_of_ble_eq_true rfl)) dX6_filter_8 ⟨Nat.le_of_ble_eq_true rfl, Nat.le_of_ble_eq_true rfl⟩) hP hS hA (cells' := 0) (slots' := 0) rfl rfl (fun H locs hP hS => ?_)
  refine z_ifB_eq (tgt := 21) hx hb dX6_filter_11 (by decide) (fun c_11 => absurd c_11 (by omega)) (fun c_11 => ?_)
  refine lv_iload_n hx hb dX6_filter_14 rfl (lv_at hl 3 rfl) ?_
  have hRc : va_P D vwCl [] H := z_nilP
  refine z_ro (ws := [(h0, .inr (5, [.ref ae, .ref al, .ref ap, .ref az, .ref ar, .int (zI np), .ref am, .int (zI th)]))]) (va_runS (As := [.int (zI t)]) (rest := []) CF (c_X6_isRow l D t (by omega) H.size) (va_cwS 1 hts gX6_filter_X6_isRow rfl rfl rfl (by decide +kernel) ⟨Nat.le_of_ble_eq_true rfl, Nat.le_of_ble_eq_true rfl⟩) (z_preS z_nilP (z_nilD (A := A)) hRc z_noX (hK.sub (tys' := []) [] rfl)) rfl rfl hl.1 rfl (lv_room (Nat.le_of_ble_eq_true rfl)) dX6_filter_15 ⟨Nat.le_of_ble_eq_true rfl, Nat.le_of_ble_eq_true rfl⟩) hP hS hA (cells' := 0) (slots' := 0) rfl rfl (fun H locs hP hS => ?_)
  refine z_ifB_ne (tgt := 28) hx hb dX6_filter_18 (by decide) (fun c_18 => absurd c_18 (by omega)) (fun c_18 => ?_)
  refine lv_aload_n hx hb dX6_filter_21 rfl (lv_at hl 0 rfl) ?_
  refine z_iconst hx hb dX6_filter_22 ?_
  refine va_put (D := D) (ci := 5) (v := .int (zI 1)) (ty := .int) (C := RX6) (T := TX6) (N := 8) hx hb hts hi6 tyX6 tyX6_ok nmX6 hown hK hP hD hS 0 rfl rfl 7 (by decide) (hts (.fieldLink RX6 28 "ButterflyYardModel" "thrown" "I") (by decide +kernel)) (fun _ h9 => h9) rfl (by decide +kernel) rfl rfl (Nat.le_of_ble_eq_true rfl) dX6_filter_23 (fun H locs hP hD hS => ?_)
  have hP : va_P D vwCl [(h0, .inr (5, [.ref ae, .ref al, .ref ap, .ref az, .ref ar, .int (zI np), .ref am, .int (zI 1)]))] H := hP
  have hD : va_D A [(h0, .inr (5, [.ref ae, .ref al, .ref ap, .ref az, .ref ar, .int (zI np), .ref am, .int (zI 1)]))] := hD
  refine z_iconst hx hb dX6_filter_26 ?_
  exact z_iret hx hb hr hlocks rfl () (rfl) (trivial) hP hD hS dX6_filter_27

set_option maxHeartbeats 4000000 in
set_option maxRecDepth 100000 in
theorem c_X6_filter_2a (l : Launch) (D : va_G) (cI : ClassId) (h0 : Nat) (ae : Nat) (al : Nat) (ap : Nat) (az : Nat) (ar : Nat) (am : Nat) (np : Int) (th : Int) (xe : Int → Int) (xl : Int → Int) (a : Int) (b : Int) (t : Int) (bl : Int) (sv : Int) (ha_a : -2147483648 ≤ a ∧ a ≤ 2147483647) (ha_b : -2147483648 ≤ b ∧ b ≤ 2147483647) (ha_t : -2147483648 ≤ t ∧ t ≤ 2147483647) (ha_bl : -2147483648 ≤ bl ∧ bl ≤ 2147483647) (ha_sv : -2147483648 ≤ sv ∧ sv ≤ 2147483647) (hnp_ : 0 ≤ np ∧ np ≤ 8) (hr_a : 0 ≤ a ∧ a < 4) (hr_b : 0 ≤ b ∧ b < 4) (hr_t : 0 ≤ t ∧ t < 4) (hxl_a : 0 ≤ xl a ∧ xl a ≤ 64) (hxl_b : 0 ≤ xl b ∧ xl b ≤ 64) (hxe : ∀ k, 0 ≤ k → k < 256 → -1000000 ≤ xe k ∧ xe k ≤ 1000000) (hbl : bl < 1) : zC l yX6_filter wsX6_filter ({ frames := 1, cells := 0, slots := 0, locals := 25 } : Room) D [(cI, .int)] [(h0, .inr (5, [.ref ae, .ref al, .ref ap, .ref az, .ref ar, .int (zI np), .ref am, .int (zI th)]))] [(ae, .inl (cI, 256, .inl (zA xe))), (al, .inl (cI, 4, .inl (zA xl)))] [.ref h0, .int (zI a), .int (zI b), .int (zI t), .int (zI bl), .int (zI sv)] (S := Unit) (fun u => True) (fun u => some (.int (zI 0))) (fun u => [(h0, .inr (5, [.ref ae, .ref al, .ref ap, .ref az, .ref ar, .int (zI np), .ref am, .int (zI 2)]))]) := by
  refine z_start (cc := cX6_filter) (maxL := 9) (ret := (some .int)) (own := RX6) (by decide) rfl rfl (Nat.le_of_ble_eq_true rfl) [(0, .ref h0), (1, .int (zI a)), (2, .int (zI b)), (3, .int (zI t)), (4, .int (zI bl)), (5, .int (zI sv))] rfl ?_
  intro pp ee s mm below meth cc A H ls hx hb hr hml hts hown hlocks hin hK hA hP hD hS hR0 hR hl
  have CF : CallFix pp mm cc cX6_filter 9 s ([.ref h0, .int (zI a), .int (zI b), .int (zI t), .int (zI bl), .int (zI sv)] : List Value).toArray wsX6_filter RX6 := ⟨hx, hb, hml, hown, hts⟩
  have hi6 : ∀ w ∈ wsX60, w ∈ wsX6_filter := by decide +kernel
  refine lv_iload_n hx hb dX6_filter_0 rfl (lv_at hl 1 rfl) ?_
  have hRc : va_P D vwCl [] H := z_nilP
  refine z_ro (ws := [(h0, .inr (5, [.ref ae, .ref al, .ref ap, .ref az, .ref ar, .int (zI np), .ref am, .int (zI th)]))]) (va_runS (As := [.int (zI a)]) (rest := []) CF (c_X6_isRow l D a (by omega) H.size) (va_cwS 1 hts gX6_filter_X6_isRow rfl rfl rfl (by decide +kernel) ⟨Nat.le_of_ble_eq_true rfl, Nat.le_of_ble_eq_true rfl⟩) (z_preS z_nilP (z_nilD (A := A)) hRc z_noX (hK.sub (tys' := []) [] rfl)) rfl rfl hl.1 rfl (lv_room (Nat.le_of_ble_eq_true rfl)) dX6_filter_1 ⟨Nat.le_of_ble_eq_true rfl, Nat.le_of_ble_eq_true rfl⟩) hP hS hA (cells' := 0) (slots' := 0) rfl rfl (fun H locs hP hS => ?_)
  have hR := hR0.at hS
  refine z_ifB_eq (tgt := 21) hx hb dX6_filter_4 (by decide) (fun c_4 => absurd c_4 (by omega)) (fun c_4 => ?_)
  refine lv_iload_n hx hb dX6_filter_7 rfl (lv_at hl 2 rfl) ?_
  have hRc : va_P D vwCl [] H := z_nilP
  refine z_ro (ws := [(h0, .inr (5, [.ref ae, .ref al, .ref ap, .ref az, .ref ar, .int (zI np), .ref am, .int (zI th)]))]) (va_runS (As := [.int (zI b)]) (rest := []) CF (c_X6_isRow l D b (by omega) H.size) (va_cwS 1 hts gX6_filter_X6_isRow rfl rfl rfl (by decide +kernel) ⟨Nat.le_of_ble_eq_true rfl, Nat.le_of_ble_eq_true rfl⟩) (z_preS z_nilP (z_nilD (A := A)) hRc z_noX (hK.sub (tys' := []) [] rfl)) rfl rfl hl.1 rfl (lv_room (Nat.le_of_ble_eq_true rfl)) dX6_filter_8 ⟨Nat.le_of_ble_eq_true rfl, Nat.le_of_ble_eq_true rfl⟩) hP hS hA (cells' := 0) (slots' := 0) rfl rfl (fun H locs hP hS => ?_)
  have hR := hR0.at hS
  refine z_ifB_eq (tgt := 21) hx hb dX6_filter_11 (by decide) (fun c_11 => absurd c_11 (by omega)) (fun c_11 => ?_)
  refine lv_iload_n hx hb dX6_filter_14 rfl (lv_at hl 3 rfl) ?_
  have hRc : va_P D vwCl [] H := z_nilP
  refine z_ro (ws := [(h0, .inr (5, [.ref ae, .ref al, .ref ap, .ref az, .ref ar, .int (zI np), .ref am, .int (zI th)]))]) (va_runS (As := [.int (zI t)]) (rest := []) CF (c_X6_isRow l D t (by omega) H.size) (va_cwS 1 hts gX6_filter_X6_isRow rfl rfl rfl (by decide +kernel) ⟨Nat.le_of_ble_eq_true rfl, Nat.le_of_ble_eq_true rfl⟩) (z_preS z_nilP (z_nilD (A := A)) hRc z_noX (hK.sub (tys' := []) [] rfl)) rfl rfl hl.1 rfl (lv_room (Nat.le_of_ble_eq_true rfl)) dX6_filter_15 ⟨Nat.le_of_ble_eq_true rfl, Nat.le_of_ble_eq_true rfl⟩) hP hS hA (cells' := 0) (slots' := 0) rfl rfl (fun H locs hP hS => ?_)
  have hR := hR0.at hS
  refine z_ifB_ne (tgt := 28) hx hb dX6_filter_18 (by decide) (fun c_18 => ?_) (fun c_18 => absurd c_18 (by omega))
  refine lv_aload_n hx hb dX6_filter_28 rfl (lv_at hl 0 rfl) ?_
  refine lv_iload_n hx hb dX6_filter_29 rfl (lv_at hl 1 rfl) ?_
  refine z_bipush hx hb dX6_filter_30 (by decide) ?_
  refine z_bipush hx hb dX6_filter_32 (by decide) ?_
  have hRc := z_subR (ws := [(h0, .inr (5, [.ref ae, .ref al, .ref ap, .ref az, .ref ar, .int (zI np), .ref am, .int (zI th)]))]) (rs := [(ae, .inl (cI, 256, .inl (zA xe))), (al, .inl (cI, 4, .inl (zA xl)))]) (rc := [(h0, .inr (5, [.ref ae, .ref al, .ref ap, .ref az, .ref ar, .int (zI np), .ref am, .int (zI th)])), (ae, .inl (cI, 256, .inl (zA xe))), (al, .inl (cI, 4, .inl (zA xl)))]) hP hR (isR := [0, 1, 2]) rfl
  refine z_ro (ws := [(h0, .inr (5, [.ref ae, .ref al, .ref ap, .ref az, .ref ar, .int (zI np), .ref am, .int (zI th)]))]) (va_runV (As := [.int (zI a), .int (zI (-99)), .int (zI 99)]) (rest := []) CF (c_X6_isWithin l D cI h0 ae al ap az ar am np th xe xl a (-99) 99 (by omega) (by omega) (by exact hxe) (by omega) (by omega) H.size) (cwV 3 hts gX6_filter_X6_isWithin rfl rfl rfl (by decide +kernel) ⟨Nat.le_of_ble_eq_true rfl, Nat.le_of_ble_eq_true rfl⟩) (z_preV (va_recv hK hP (ci := 5) (q0 := 0) rfl rfl) z_nilP (z_nilD (A := A)) hRc z_noX (hK.sub (tys' := [(cI, .int)]) [0] rfl)) rfl rfl hl.1 rfl (lv_room (Nat.le_of_ble_eq_true rfl)) dX6_filter_34 ⟨Nat.le_of_ble_eq_true rfl, Nat.le_of_ble_eq_true rfl⟩) hP hS hA (cells' := 0) (slots' := 0) rfl rfl (fun H locs hP hS => ?_)
  have hR := hR0.at hS
  refine z_ifB_eq (tgt := 56) hx hb dX6_filter_37 (by decide) (fun c_37 => ?_) (fun c_37 => ?_)
  · refine z_iconst hx hb dX6_filter_56 ?_
    refine lv_istore (lv' := [(6, .int (zI 0)), (0, .ref h0), (1, .int (zI a)), (2, .int (zI b)), (3, .int (zI t)), (4, .int (zI bl)), (5, .int (zI sv))]) hx hb dX6_filter_57 hl (by decide) rfl (fun ls hl => ?_)
    have hl := lv_sub hl [1, 2, 3, 4, 5, 6, 0] rfl
    have hl : lv_has ls 9 [(0, .ref h0), (1, .int (zI a)), (2, .int (zI b)), (3, .int (zI t)), (4, .int (zI bl)), (5, .int (zI sv)), (6, .int (zI 0))] := hl
    refine lv_aload_n hx hb dX6_filter_59 rfl (lv_at hl 0 rfl) ?_
    refine va_get (D := D) (ci := 5) (C := RX6) (T := TX6) (N := 8) hx hb hts hi6 hown hK hP 0 rfl rfl 1 (by decide) (hts (.fieldLink RX6 13 "ButterflyYardModel" "lengths" "[I") (by decide +kernel)) (fun _ h9 => h9) rfl dX6_filter_60 ?_
    refine lv_iload_n hx hb dX6_filter_63 rfl (lv_at hl 1 rfl) ?_
    refine z_iald (cA := cI) (n := 4) (g := xl) hx hb hK hR 1 0 rfl rfl rfl (by omega) dX6_filter_64 ?_
    refine lv_aload_n hx hb dX6_filter_65 rfl (lv_at hl 0 rfl) ?_
    refine va_get (D := D) (ci := 5) (C := RX6) (T := TX6) (N := 8) hx hb hts hi6 hown hK hP 0 rfl rfl 1 (by decide) (hts (.fieldLink RX6 13 "ButterflyYardModel" "lengths" "[I") (by decide +kernel)) (fun _ h9 => h9) rfl dX6_filter_66 ?_
    refine lv_iload_n hx hb dX6_filter_69 rfl (lv_at hl 2 rfl) ?_
    refine z_iald (cA := cI) (n := 4) (g := xl) hx hb hK hR 1 0 rfl rfl rfl (by omega) dX6_filter_70 ?_
    refine z_iadd hx hb dX6_filter_71 ?_
    refine z_iconst hx hb dX6_filter_72 ?_
    refine z_isub hx hb dX6_filter_73 ?_
    refine lv_istore (lv' := [(7, .int (zI (((xl a) + (xl b)) - 1))), (0, .ref h0), (1, .int (zI a)), (2, .int (zI b)), (3, .int (zI t)), (4, .int (zI bl)), (5, .int (zI sv)), (6, .int (zI 0))]) hx hb dX6_filter_74 hl (by decide) rfl (fun ls hl => ?_)
    have hl := lv_sub hl [1, 2, 3, 4, 5, 6, 7, 0] rfl
    have hl : lv_has ls 9 [(0, .ref h0), (1, .int (zI a)), (2, .int (zI b)), (3, .int (zI t)), (4, .int (zI bl)), (5, .int (zI sv)), (6, .int (zI 0)), (7, .int (zI (((xl a) + (xl b)) - 1)))] := hl
    refine lv_aload_n hx hb dX6_filter_76 rfl (lv_at hl 0 rfl) ?_
    refine lv_iload hx hb dX6_filter_77 (lv_at hl 4 rfl) ?_
    refine z_iconst hx hb dX6_filter_79 ?_
    refine z_icmp_lt (tgt := 95) hx hb dX6_filter_80 (by decide) (by omega) (fun c_80 => ?_) (fun c_80 => absurd c_80 (by omega))
    refine z_iconst hx hb dX6_filter_95 ?_
    refine lv_goto (tgt := 129) hx hb dX6_filter_96 (by decide) ?_
    refine va_put (D := D) (ci := 5) (v := .int (zI 2)) (ty := .int) (C := RX6) (T := TX6) (N := 8) hx hb hts hi6 tyX6 tyX6_ok nmX6 hown hK hP hD hS 0 rfl rfl 7 (by decide) (hts (.fieldLink RX6 28 "ButterflyYardModel" "thrown" "I") (by decide +kernel)) (fun _ h9 => h9) rfl (by decide +kernel) rfl rfl (Nat.le_of_ble_eq_true rfl) dX6_filter_129 (fun H locs hP hD hS => ?_)
    have hP : va_P D vwCl [(h0, .inr (5, [.ref ae, .ref al, .ref ap, .ref az, .ref ar, .int (zI np), .ref am, .int (zI 2)]))] H := hP
    have hD : va_D A [(h0, .inr (5, [.ref ae, .ref al, .ref ap, .ref az, .ref ar, .int (zI np), .ref am, .int (zI 2)]))] := hD
    have hR := hR0.at hS
    refine lv_aload_n hx hb dX6_filter_132 rfl (lv_at hl 0 rfl) ?_
    refine va_get (D := D) (ci := 5) (C := RX6) (T := TX6) (N := 8) hx hb hts hi6 hown hK hP 0 rfl rfl 7 (by decide) (hts (.fieldLink RX6 28 "ButterflyYardModel" "thrown" "I") (by decide +kernel)) (fun _ h9 => h9) rfl dX6_filter_133 ?_
    refine z_if_eq (tgt := 141) hx hb dX6_filter_136 (by decide) (by omega) (fun c_136 => absurd c_136 (by omega)) (fun c_136 => ?_)
    refine z_iconst hx hb dX6_filter_139 ?_
    exact z_iret hx hb hr hlocks rfl () (rfl) (trivial) hP hD hS dX6_filter_140
  · refine lv_aload_n hx hb dX6_filter_40 rfl (lv_at hl 0 rfl) ?_
    refine lv_iload_n hx hb dX6_filter_41 rfl (lv_at hl 2 rfl) ?_
    refine z_bipush hx hb dX6_filter_42 (by decide) ?_
    refine z_bipush hx hb dX6_filter_44 (by decide) ?_
    have hRc := z_subR (ws := [(h0, .inr (5, [.ref ae, .ref al, .ref ap, .ref az, .ref ar, .int (zI np), .ref am, .int (zI th)]))]) (rs := [(ae, .inl (cI, 256, .inl (zA xe))), (al, .inl (cI, 4, .inl (zA xl)))]) (rc := [(h0, .inr (5, [.ref ae, .ref al, .ref ap, .ref az, .ref ar, .int (zI np), .ref am, .int (zI th)])), (ae, .inl (cI, 256, .inl (zA xe))), (al, .inl (cI, 4, .inl (zA xl)))]) hP hR (isR := [0, 1, 2]) rfl
    refine z_ro (ws := [(h0, .inr (5, [.ref ae, .ref al, .ref ap, .ref az, .ref ar, .int (zI np), .ref am, .int (zI th)]))]) (va_runV (As := [.int (zI b), .int (zI (-99)), .int (zI 99)]) (rest := []) CF (c_X6_isWithin l D cI h0 ae al ap az ar am np th xe xl b (-99) 99 (by omega) (by omega) (by exact hxe) (by omega) (by omega) H.size) (cwV 3 hts gX6_filter_X6_isWithin rfl rfl rfl (by decide +kernel) ⟨Nat.le_of_ble_eq_true rfl, Nat.le_of_ble_eq_true rfl⟩) (z_preV (va_recv hK hP (ci := 5) (q0 := 0) rfl rfl) z_nilP (z_nilD (A := A)) hRc z_noX (hK.sub (tys' := [(cI, .int)]) [0] rfl)) rfl rfl hl.1 rfl (lv_room (Nat.le_of_ble_eq_true rfl)) dX6_filter_46 ⟨Nat.le_of_ble_eq_true rfl, Nat.le_of_ble_eq_true rfl⟩) hP hS hA (cells' := 0) (slots' := 0) rfl rfl (fun H locs hP hS => ?_)
    have hR := hR0.at hS
    refine z_ifB_eq (tgt := 56) hx hb dX6_filter_49 (by decide) (fun c_49 => ?_) (fun c_49 => ?_)
    · refine z_iconst hx hb dX6_filter_56 ?_
      refine lv_istore (lv' := [(6, .int (zI 0)), (0, .ref h0), (1, .int (zI a)), (2, .int (zI b)), (3, .int (zI t)), (4, .int (zI bl)), (5, .int (zI sv))]) hx hb dX6_filter_57 hl (by decide) rfl (fun ls hl => ?_)
      have hl := lv_sub hl [1, 2, 3, 4, 5, 6, 0] rfl
      have hl : lv_has ls 9 [(0, .ref h0), (1, .int (zI a)), (2, .int (zI b)), (3, .int (zI t)), (4, .int (zI bl)), (5, .int (zI sv)), (6, .int (zI 0))] := hl
      refine lv_aload_n hx hb dX6_filter_59 rfl (lv_at hl 0 rfl) ?_
      refine va_get (D := D) (ci := 5) (C := RX6) (T := TX6) (N := 8) hx hb hts hi6 hown hK hP 0 rfl rfl 1 (by decide) (hts (.fieldLink RX6 13 "ButterflyYardModel" "lengths" "[I") (by decide +kernel)) (fun _ h9 => h9) rfl dX6_filter_60 ?_
      refine lv_iload_n hx hb dX6_filter_63 rfl (lv_at hl 1 rfl) ?_
      refine z_iald (cA := cI) (n := 4) (g := xl) hx hb hK hR 1 0 rfl rfl rfl (by omega) dX6_filter_64 ?_
      refine lv_aload_n hx hb dX6_filter_65 rfl (lv_at hl 0 rfl) ?_
      refine va_get (D := D) (ci := 5) (C := RX6) (T := TX6) (N := 8) hx hb hts hi6 hown hK hP 0 rfl rfl 1 (by decide) (hts (.fieldLink RX6 13 "ButterflyYardModel" "lengths" "[I") (by decide +kernel)) (fun _ h9 => h9) rfl dX6_filter_66 ?_
      refine lv_iload_n hx hb dX6_filter_69 rfl (lv_at hl 2 rfl) ?_
      refine z_iald (cA := cI) (n := 4) (g := xl) hx hb hK hR 1 0 rfl rfl rfl (by omega) dX6_filter_70 ?_
      refine z_iadd hx hb dX6_filter_71 ?_
      refine z_iconst hx hb dX6_filter_72 ?_
      refine z_isub hx hb dX6_filter_73 ?_
      refine lv_istore (lv' := [(7, .int (zI (((xl a) + (xl b)) - 1))), (0, .ref h0), (1, .int (zI a)), (2, .int (zI b)), (3, .int (zI t)), (4, .int (zI bl)), (5, .int (zI sv)), (6, .int (zI 0))]) hx hb dX6_filter_74 hl (by decide) rfl (fun ls hl => ?_)
      have hl := lv_sub hl [1, 2, 3, 4, 5, 6, 7, 0] rfl
      have hl : lv_has ls 9 [(0, .ref h0), (1, .int (zI a)), (2, .int (zI b)), (3, .int (zI t)), (4, .int (zI bl)), (5, .int (zI sv)), (6, .int (zI 0)), (7, .int (zI (((xl a) + (xl b)) - 1)))] := hl
      refine lv_aload_n hx hb dX6_filter_76 rfl (lv_at hl 0 rfl) ?_
      refine lv_iload hx hb dX6_filter_77 (lv_at hl 4 rfl) ?_
      refine z_iconst hx hb dX6_filter_79 ?_
      refine z_icmp_lt (tgt := 95) hx hb dX6_filter_80 (by decide) (by omega) (fun c_80 => ?_) (fun c_80 => absurd c_80 (by omega))
      refine z_iconst hx hb dX6_filter_95 ?_
      refine lv_goto (tgt := 129) hx hb dX6_filter_96 (by decide) ?_
      refine va_put (D := D) (ci := 5) (v := .int (zI 2)) (ty := .int) (C := RX6) (T := TX6) (N := 8) hx hb hts hi6 tyX6 tyX6_ok nmX6 hown hK hP hD hS 0 rfl rfl 7 (by decide) (hts (.fieldLink RX6 28 "ButterflyYardModel" "thrown" "I") (by decide +kernel)) (fun _ h9 => h9) rfl (by decide +kernel) rfl rfl (Nat.le_of_ble_eq_true rfl) dX6_filter_129 (fun H locs hP hD hS => ?_)
      have hP : va_P D vwCl [(h0, .inr (5, [.ref ae, .ref al, .ref ap, .ref az, .ref ar, .int (zI np), .ref am, .int (zI 2)]))] H := hP
      have hD : va_D A [(h0, .inr (5, [.ref ae, .ref al, .ref ap, .ref az, .ref ar, .int (zI np), .ref am, .int (zI 2)]))] := hD
      have hR := hR0.at hS
      refine lv_aload_n hx hb dX6_filter_132 rfl (lv_at hl 0 rfl) ?_
      refine va_get (D := D) (ci := 5) (C := RX6) (T := TX6) (N := 8) hx hb hts hi6 hown hK hP 0 rfl rfl 7 (by decide) (hts (.fieldLink RX6 28 "ButterflyYardModel" "thrown" "I") (by decide +kernel)) (fun _ h9 => h9) rfl dX6_filter_133 ?_
      refine z_if_eq (tgt := 141) hx hb dX6_filter_136 (by decide) (by omega) (fun c_136 => absurd c_136 (by omega)) (fun c_136 => ?_)
      refine z_iconst hx hb dX6_filter_139 ?_
      exact z_iret hx hb hr hlocks rfl () (rfl) (trivial) hP hD hS dX6_filter_140
    · refine z_iconst hx hb dX6_filter_52 ?_
      refine lv_goto (tgt := 57) hx hb dX6_filter_53 (by decide) ?_
      refine lv_istore (lv' := [(6, .int (zI 1)), (0, .ref h0), (1, .int (zI a)), (2, .int (zI b)), (3, .int (zI t)), (4, .int (zI bl)), (5, .int (zI sv))]) hx hb dX6_filter_57 hl (by decide) rfl (fun ls hl => ?_)
      have hl := lv_sub hl [1, 2, 3, 4, 5, 6, 0] rfl
      have hl : lv_has ls 9 [(0, .ref h0), (1, .int (zI a)), (2, .int (zI b)), (3, .int (zI t)), (4, .int (zI bl)), (5, .int (zI sv)), (6, .int (zI 1))] := hl
      refine lv_aload_n hx hb dX6_filter_59 rfl (lv_at hl 0 rfl) ?_
      refine va_get (D := D) (ci := 5) (C := RX6) (T := TX6) (N := 8) hx hb hts hi6 hown hK hP 0 rfl rfl 1 (by decide) (hts (.fieldLink RX6 13 "ButterflyYardModel" "lengths" "[I") (by decide +kernel)) (fun _ h9 => h9) rfl dX6_filter_60 ?_
      refine lv_iload_n hx hb dX6_filter_63 rfl (lv_at hl 1 rfl) ?_
      refine z_iald (cA := cI) (n := 4) (g := xl) hx hb hK hR 1 0 rfl rfl rfl (by omega) dX6_filter_64 ?_
      refine lv_aload_n hx hb dX6_filter_65 rfl (lv_at hl 0 rfl) ?_
      refine va_get (D := D) (ci := 5) (C := RX6) (T := TX6) (N := 8) hx hb hts hi6 hown hK hP 0 rfl rfl 1 (by decide) (hts (.fieldLink RX6 13 "ButterflyYardModel" "lengths" "[I") (by decide +kernel)) (fun _ h9 => h9) rfl dX6_filter_66 ?_
      refine lv_iload_n hx hb dX6_filter_69 rfl (lv_at hl 2 rfl) ?_
      refine z_iald (cA := cI) (n := 4) (g := xl) hx hb hK hR 1 0 rfl rfl rfl (by omega) dX6_filter_70 ?_
      refine z_iadd hx hb dX6_filter_71 ?_
      refine z_iconst hx hb dX6_filter_72 ?_
      refine z_isub hx hb dX6_filter_73 ?_
      refine lv_istore (lv' := [(7, .int (zI (((xl a) + (xl b)) - 1))), (0, .ref h0), (1, .int (zI a)), (2, .int (zI b)), (3, .int (zI t)), (4, .int (zI bl)), (5, .int (zI sv)), (6, .int (zI 1))]) hx hb dX6_filter_74 hl (by decide) rfl (fun ls hl => ?_)
      have hl := lv_sub hl [1, 2, 3, 4, 5, 6, 7, 0] rfl
      have hl : lv_has ls 9 [(0, .ref h0), (1, .int (zI a)), (2, .int (zI b)), (3, .int (zI t)), (4, .int (zI bl)), (5, .int (zI sv)), (6, .int (zI 1)), (7, .int (zI (((xl a) + (xl b)) - 1)))] := hl
      refine lv_aload_n hx hb dX6_filter_76 rfl (lv_at hl 0 rfl) ?_
      refine lv_iload hx hb dX6_filter_77 (lv_at hl 4 rfl) ?_
      refine z_iconst hx hb dX6_filter_79 ?_
      refine z_icmp_lt (tgt := 95) hx hb dX6_filter_80 (by decide) (by omega) (fun c_80 => ?_) (fun c_80 => absurd c_80 (by omega))
      refine z_iconst hx hb dX6_filter_95 ?_
      refine lv_goto (tgt := 129) hx hb dX6_filter_96 (by decide) ?_
      refine va_put (D := D) (ci := 5) (v := .int (zI 2)) (ty := .int) (C := RX6) (T := TX6) (N := 8) hx hb hts hi6 tyX6 tyX6_ok nmX6 hown hK hP hD hS 0 rfl rfl 7 (by decide) (hts (.fieldLink RX6 28 "ButterflyYardModel" "thrown" "I") (by decide +kernel)) (fun _ h9 => h9) rfl (by decide +kernel) rfl rfl (Nat.le_of_ble_eq_true rfl) dX6_filter_129 (fun H locs hP hD hS => ?_)
      have hP : va_P D vwCl [(h0, .inr (5, [.ref ae, .ref al, .ref ap, .ref az, .ref ar, .int (zI np), .ref am, .int (zI 2)]))] H := hP
      have hD : va_D A [(h0, .inr (5, [.ref ae, .ref al, .ref ap, .ref az, .ref ar, .int (zI np), .ref am, .int (zI 2)]))] := hD
      have hR := hR0.at hS
      refine lv_aload_n hx hb dX6_filter_132 rfl (lv_at hl 0 rfl) ?_
      refine va_get (D := D) (ci := 5) (C := RX6) (T := TX6) (N := 8) hx hb hts hi6 hown hK hP 0 rfl rfl 7 (by decide) (hts (.fieldLink RX6 28 "ButterflyYardModel" "thrown" "I") (by decide +kernel)) (fun _ h9 => h9) rfl dX6_filter_133 ?_
      refine z_if_eq (tgt := 141) hx hb dX6_filter_136 (by decide) (by omega) (fun c_136 => absurd c_136 (by omega)) (fun c_136 => ?_)
      refine z_iconst hx hb dX6_filter_139 ?_
      exact z_iret hx hb hr hlocks rfl () (rfl) (trivial) hP hD hS dX6_filter_140

set_option maxHeartbeats 4000000 in
set_option maxRecDepth 100000 in
theorem c_X6_filter_2b (l : Launch) (D : va_G) (cI : ClassId) (h0 : Nat) (ae : Nat) (al : Nat) (ap : Nat) (az : Nat) (ar : Nat) (am : Nat) (np : Int) (th : Int) (xe : Int → Int) (xl : Int → Int) (a : Int) (b : Int) (t : Int) (bl : Int) (sv : Int) (ha_a : -2147483648 ≤ a ∧ a ≤ 2147483647) (ha_b : -2147483648 ≤ b ∧ b ≤ 2147483647) (ha_t : -2147483648 ≤ t ∧ t ≤ 2147483647) (ha_bl : -2147483648 ≤ bl ∧ bl ≤ 2147483647) (ha_sv : -2147483648 ≤ sv ∧ sv ≤ 2147483647) (hnp_ : 0 ≤ np ∧ np ≤ 8) (hr_a : 0 ≤ a ∧ a < 4) (hr_b : 0 ≤ b ∧ b < 4) (hr_t : 0 ≤ t ∧ t < 4) (hxl_a : 0 ≤ xl a ∧ xl a ≤ 64) (hxl_b : 0 ≤ xl b ∧ xl b ≤ 64) (hxe : ∀ k, 0 ≤ k → k < 256 → -1000000 ≤ xe k ∧ xe k ≤ 1000000) (hbl : 32 < bl) : zC l yX6_filter wsX6_filter ({ frames := 1, cells := 0, slots := 0, locals := 25 } : Room) D [(cI, .int)] [(h0, .inr (5, [.ref ae, .ref al, .ref ap, .ref az, .ref ar, .int (zI np), .ref am, .int (zI th)]))] [(ae, .inl (cI, 256, .inl (zA xe))), (al, .inl (cI, 4, .inl (zA xl)))] [.ref h0, .int (zI a), .int (zI b), .int (zI t), .int (zI bl), .int (zI sv)] (S := Unit) (fun u => True) (fun u => some (.int (zI 0))) (fun u => [(h0, .inr (5, [.ref ae, .ref al, .ref ap, .ref az, .ref ar, .int (zI np), .ref am, .int (zI 2)]))]) := by
  refine z_start (cc := cX6_filter) (maxL := 9) (ret := (some .int)) (own := RX6) (by decide) rfl rfl (Nat.le_of_ble_eq_true rfl) [(0, .ref h0), (1, .int (zI a)), (2, .int (zI b)), (3, .int (zI t)), (4, .int (zI bl)), (5, .int (zI sv))] rfl ?_
  intro pp ee s mm below meth cc A H ls hx hb hr hml hts hown hlocks hin hK hA hP hD hS hR0 hR hl
  have CF : CallFix pp mm cc cX6_filter 9 s ([.ref h0, .int (zI a), .int (zI b), .int (zI t), .int (zI bl), .int (zI sv)] : List Value).toArray wsX6_filter RX6 := ⟨hx, hb, hml, hown, hts⟩
  have hi6 : ∀ w ∈ wsX60, w ∈ wsX6_filter := by decide +kernel
  refine lv_iload_n hx hb dX6_filter_0 rfl (lv_at hl 1 rfl) ?_
  have hRc : va_P D vwCl [] H := z_nilP
  refine z_ro (ws := [(h0, .inr (5, [.ref ae, .ref al, .ref ap, .ref az, .ref ar, .int (zI np), .ref am, .int (zI th)]))]) (va_runS (As := [.int (zI a)]) (rest := []) CF (c_X6_isRow l D a (by omega) H.size) (va_cwS 1 hts gX6_filter_X6_isRow rfl rfl rfl (by decide +kernel) ⟨Nat.le_of_ble_eq_true rfl, Nat.le_of_ble_eq_true rfl⟩) (z_preS z_nilP (z_nilD (A := A)) hRc z_noX (hK.sub (tys' := []) [] rfl)) rfl rfl hl.1 rfl (lv_room (Nat.le_of_ble_eq_true rfl)) dX6_filter_1 ⟨Nat.le_of_ble_eq_true rfl, Nat.le_of_ble_eq_true rfl⟩) hP hS hA (cells' := 0) (slots' := 0) rfl rfl (fun H locs hP hS => ?_)
  have hR := hR0.at hS
  refine z_ifB_eq (tgt := 21) hx hb dX6_filter_4 (by decide) (fun c_4 => absurd c_4 (by omega)) (fun c_4 => ?_)
  refine lv_iload_n hx hb dX6_filter_7 rfl (lv_at hl 2 rfl) ?_
  have hRc : va_P D vwCl [] H := z_nilP
  refine z_ro (ws := [(h0, .inr (5, [.ref ae, .ref al, .ref ap, .ref az, .ref ar, .int (zI np), .ref am, .int (zI th)]))]) (va_runS (As := [.int (zI b)]) (rest := []) CF (c_X6_isRow l D b (by omega) H.size) (va_cwS 1 hts gX6_filter_X6_isRow rfl rfl rfl (by decide +kernel) ⟨Nat.le_of_ble_eq_true rfl, Nat.le_of_ble_eq_true rfl⟩) (z_preS z_nilP (z_nilD (A := A)) hRc z_noX (hK.sub (tys' := []) [] rfl)) rfl rfl hl.1 rfl (lv_room (Nat.le_of_ble_eq_true rfl)) dX6_filter_8 ⟨Nat.le_of_ble_eq_true rfl, Nat.le_of_ble_eq_true rfl⟩) hP hS hA (cells' := 0) (slots' := 0) rfl rfl (fun H locs hP hS => ?_)
  have hR := hR0.at hS
  refine z_ifB_eq (tgt := 21) hx hb dX6_filter_11 (by decide) (fun c_11 => absurd c_11 (by omega)) (fun c_11 => ?_)
  refine lv_iload_n hx hb dX6_filter_14 rfl (lv_at hl 3 rfl) ?_
  have hRc : va_P D vwCl [] H := z_nilP
  refine z_ro (ws := [(h0, .inr (5, [.ref ae, .ref al, .ref ap, .ref az, .ref ar, .int (zI np), .ref am, .int (zI th)]))]) (va_runS (As := [.int (zI t)]) (rest := []) CF (c_X6_isRow l D t (by omega) H.size) (va_cwS 1 hts gX6_filter_X6_isRow rfl rfl rfl (by decide +kernel) ⟨Nat.le_of_ble_eq_true rfl, Nat.le_of_ble_eq_true rfl⟩) (z_preS z_nilP (z_nilD (A := A)) hRc z_noX (hK.sub (tys' := []) [] rfl)) rfl rfl hl.1 rfl (lv_room (Nat.le_of_ble_eq_true rfl)) dX6_filter_15 ⟨Nat.le_of_ble_eq_true rfl, Nat.le_of_ble_eq_true rfl⟩) hP hS hA (cells' := 0) (slots' := 0) rfl rfl (fun H locs hP hS => ?_)
  have hR := hR0.at hS
  refine z_ifB_ne (tgt := 28) hx hb dX6_filter_18 (by decide) (fun c_18 => ?_) (fun c_18 => absurd c_18 (by omega))
  refine lv_aload_n hx hb dX6_filter_28 rfl (lv_at hl 0 rfl) ?_
  refine lv_iload_n hx hb dX6_filter_29 rfl (lv_at hl 1 rfl) ?_
  refine z_bipush hx hb dX6_filter_30 (by decide) ?_
  refine z_bipush hx hb dX6_filter_32 (by decide) ?_
  have hRc := z_subR (ws := [(h0, .inr (5, [.ref ae, .ref al, .ref ap, .ref az, .ref ar, .int (zI np), .ref am, .int (zI th)]))]) (rs := [(ae, .inl (cI, 256, .inl (zA xe))), (al, .inl (cI, 4, .inl (zA xl)))]) (rc := [(h0, .inr (5, [.ref ae, .ref al, .ref ap, .ref az, .ref ar, .int (zI np), .ref am, .int (zI th)])), (ae, .inl (cI, 256, .inl (zA xe))), (al, .inl (cI, 4, .inl (zA xl)))]) hP hR (isR := [0, 1, 2]) rfl
  refine z_ro (ws := [(h0, .inr (5, [.ref ae, .ref al, .ref ap, .ref az, .ref ar, .int (zI np), .ref am, .int (zI th)]))]) (va_runV (As := [.int (zI a), .int (zI (-99)), .int (zI 99)]) (rest := []) CF (c_X6_isWithin l D cI h0 ae al ap az ar am np th xe xl a (-99) 99 (by omega) (by omega) (by exact hxe) (by omega) (by omega) H.size) (cwV 3 hts gX6_filter_X6_isWithin rfl rfl rfl (by decide +kernel) ⟨Nat.le_of_ble_eq_true rfl, Nat.le_of_ble_eq_true rfl⟩) (z_preV (va_recv hK hP (ci := 5) (q0 := 0) rfl rfl) z_nilP (z_nilD (A := A)) hRc z_noX (hK.sub (tys' := [(cI, .int)]) [0] rfl)) rfl rfl hl.1 rfl (lv_room (Nat.le_of_ble_eq_true rfl)) dX6_filter_34 ⟨Nat.le_of_ble_eq_true rfl, Nat.le_of_ble_eq_true rfl⟩) hP hS hA (cells' := 0) (slots' := 0) rfl rfl (fun H locs hP hS => ?_)
  have hR := hR0.at hS
  refine z_ifB_eq (tgt := 56) hx hb dX6_filter_37 (by decide) (fun c_37 => ?_) (fun c_37 => ?_)
  · refine z_iconst hx hb dX6_filter_56 ?_
    refine lv_istore (lv' := [(6, .int (zI 0)), (0, .ref h0), (1, .int (zI a)), (2, .int (zI b)), (3, .int (zI t)), (4, .int (zI bl)), (5, .int (zI sv))]) hx hb dX6_filter_57 hl (by decide) rfl (fun ls hl => ?_)
    have hl := lv_sub hl [1, 2, 3, 4, 5, 6, 0] rfl
    have hl : lv_has ls 9 [(0, .ref h0), (1, .int (zI a)), (2, .int (zI b)), (3, .int (zI t)), (4, .int (zI bl)), (5, .int (zI sv)), (6, .int (zI 0))] := hl
    refine lv_aload_n hx hb dX6_filter_59 rfl (lv_at hl 0 rfl) ?_
    refine va_get (D := D) (ci := 5) (C := RX6) (T := TX6) (N := 8) hx hb hts hi6 hown hK hP 0 rfl rfl 1 (by decide) (hts (.fieldLink RX6 13 "ButterflyYardModel" "lengths" "[I") (by decide +kernel)) (fun _ h9 => h9) rfl dX6_filter_60 ?_
    refine lv_iload_n hx hb dX6_filter_63 rfl (lv_at hl 1 rfl) ?_
    refine z_iald (cA := cI) (n := 4) (g := xl) hx hb hK hR 1 0 rfl rfl rfl (by omega) dX6_filter_64 ?_
    refine lv_aload_n hx hb dX6_filter_65 rfl (lv_at hl 0 rfl) ?_
    refine va_get (D := D) (ci := 5) (C := RX6) (T := TX6) (N := 8) hx hb hts hi6 hown hK hP 0 rfl rfl 1 (by decide) (hts (.fieldLink RX6 13 "ButterflyYardModel" "lengths" "[I") (by decide +kernel)) (fun _ h9 => h9) rfl dX6_filter_66 ?_
    refine lv_iload_n hx hb dX6_filter_69 rfl (lv_at hl 2 rfl) ?_
    refine z_iald (cA := cI) (n := 4) (g := xl) hx hb hK hR 1 0 rfl rfl rfl (by omega) dX6_filter_70 ?_
    refine z_iadd hx hb dX6_filter_71 ?_
    refine z_iconst hx hb dX6_filter_72 ?_
    refine z_isub hx hb dX6_filter_73 ?_
    refine lv_istore (lv' := [(7, .int (zI (((xl a) + (xl b)) - 1))), (0, .ref h0), (1, .int (zI a)), (2, .int (zI b)), (3, .int (zI t)), (4, .int (zI bl)), (5, .int (zI sv)), (6, .int (zI 0))]) hx hb dX6_filter_74 hl (by decide) rfl (fun ls hl => ?_)
    have hl := lv_sub hl [1, 2, 3, 4, 5, 6, 7, 0] rfl
    have hl : lv_has ls 9 [(0, .ref h0), (1, .int (zI a)), (2, .int (zI b)), (3, .int (zI t)), (4, .int (zI bl)), (5, .int (zI sv)), (6, .int (zI 0)), (7, .int (zI (((xl a) + (xl b)) - 1)))] := hl
    refine lv_aload_n hx hb dX6_filter_76 rfl (lv_at hl 0 rfl) ?_
    refine lv_iload hx hb dX6_filter_77 (lv_at hl 4 rfl) ?_
    refine z_iconst hx hb dX6_filter_79 ?_
    refine z_icmp_lt (tgt := 95) hx hb dX6_filter_80 (by decide) (by omega) (fun c_80 => absurd c_80 (by omega)) (fun c_80 => ?_)
    refine lv_iload hx hb dX6_filter_83 (lv_at hl 4 rfl) ?_
    refine z_bipush hx hb dX6_filter_85 (by decide) ?_
    refine z_icmp_gt (tgt := 95) hx hb dX6_filter_87 (by decide) (by omega) (fun c_87 => ?_) (fun c_87 => absurd c_87 (by omega))
    refine z_iconst hx hb dX6_filter_95 ?_
    refine lv_goto (tgt := 129) hx hb dX6_filter_96 (by decide) ?_
    refine va_put (D := D) (ci := 5) (v := .int (zI 2)) (ty := .int) (C := RX6) (T := TX6) (N := 8) hx hb hts hi6 tyX6 tyX6_ok nmX6 hown hK hP hD hS 0 rfl rfl 7 (by decide) (hts (.fieldLink RX6 28 "ButterflyYardModel" "thrown" "I") (by decide +kernel)) (fun _ h9 => h9) rfl (by decide +kernel) rfl rfl (Nat.le_of_ble_eq_true rfl) dX6_filter_129 (fun H locs hP hD hS => ?_)
    have hP : va_P D vwCl [(h0, .inr (5, [.ref ae, .ref al, .ref ap, .ref az, .ref ar, .int (zI np), .ref am, .int (zI 2)]))] H := hP
    have hD : va_D A [(h0, .inr (5, [.ref ae, .ref al, .ref ap, .ref az, .ref ar, .int (zI np), .ref am, .int (zI 2)]))] := hD
    have hR := hR0.at hS
    refine lv_aload_n hx hb dX6_filter_132 rfl (lv_at hl 0 rfl) ?_
    refine va_get (D := D) (ci := 5) (C := RX6) (T := TX6) (N := 8) hx hb hts hi6 hown hK hP 0 rfl rfl 7 (by decide) (hts (.fieldLink RX6 28 "ButterflyYardModel" "thrown" "I") (by decide +kernel)) (fun _ h9 => h9) rfl dX6_filter_133 ?_
    refine z_if_eq (tgt := 141) hx hb dX6_filter_136 (by decide) (by omega) (fun c_136 => absurd c_136 (by omega)) (fun c_136 => ?_)
    refine z_iconst hx hb dX6_filter_139 ?_
    exact z_iret hx hb hr hlocks rfl () (rfl) (trivial) hP hD hS dX6_filter_140
  · refine lv_aload_n hx hb dX6_filter_40 rfl (lv_at hl 0 rfl) ?_
    refine lv_iload_n hx hb dX6_filter_41 rfl (lv_at hl 2 rfl) ?_
    refine z_bipush hx hb dX6_filter_42 (by decide) ?_
    refine z_bipush hx hb dX6_filter_44 (by decide) ?_
    have hRc := z_subR (ws := [(h0, .inr (5, [.ref ae, .ref al, .ref ap, .ref az, .ref ar, .int (zI np), .ref am, .int (zI th)]))]) (rs := [(ae, .inl (cI, 256, .inl (zA xe))), (al, .inl (cI, 4, .inl (zA xl)))]) (rc := [(h0, .inr (5, [.ref ae, .ref al, .ref ap, .ref az, .ref ar, .int (zI np), .ref am, .int (zI th)])), (ae, .inl (cI, 256, .inl (zA xe))), (al, .inl (cI, 4, .inl (zA xl)))]) hP hR (isR := [0, 1, 2]) rfl
    refine z_ro (ws := [(h0, .inr (5, [.ref ae, .ref al, .ref ap, .ref az, .ref ar, .int (zI np), .ref am, .int (zI th)]))]) (va_runV (As := [.int (zI b), .int (zI (-99)), .int (zI 99)]) (rest := []) CF (c_X6_isWithin l D cI h0 ae al ap az ar am np th xe xl b (-99) 99 (by omega) (by omega) (by exact hxe) (by omega) (by omega) H.size) (cwV 3 hts gX6_filter_X6_isWithin rfl rfl rfl (by decide +kernel) ⟨Nat.le_of_ble_eq_true rfl, Nat.le_of_ble_eq_true rfl⟩) (z_preV (va_recv hK hP (ci := 5) (q0 := 0) rfl rfl) z_nilP (z_nilD (A := A)) hRc z_noX (hK.sub (tys' := [(cI, .int)]) [0] rfl)) rfl rfl hl.1 rfl (lv_room (Nat.le_of_ble_eq_true rfl)) dX6_filter_46 ⟨Nat.le_of_ble_eq_true rfl, Nat.le_of_ble_eq_true rfl⟩) hP hS hA (cells' := 0) (slots' := 0) rfl rfl (fun H locs hP hS => ?_)
    have hR := hR0.at hS
    refine z_ifB_eq (tgt := 56) hx hb dX6_filter_49 (by decide) (fun c_49 => ?_) (fun c_49 => ?_)
    · refine z_iconst hx hb dX6_filter_56 ?_
      refine lv_istore (lv' := [(6, .int (zI 0)), (0, .ref h0), (1, .int (zI a)), (2, .int (zI b)), (3, .int (zI t)), (4, .int (zI bl)), (5, .int (zI sv))]) hx hb dX6_filter_57 hl (by decide) rfl (fun ls hl => ?_)
      have hl := lv_sub hl [1, 2, 3, 4, 5, 6, 0] rfl
      have hl : lv_has ls 9 [(0, .ref h0), (1, .int (zI a)), (2, .int (zI b)), (3, .int (zI t)), (4, .int (zI bl)), (5, .int (zI sv)), (6, .int (zI 0))] := hl
      refine lv_aload_n hx hb dX6_filter_59 rfl (lv_at hl 0 rfl) ?_
      refine va_get (D := D) (ci := 5) (C := RX6) (T := TX6) (N := 8) hx hb hts hi6 hown hK hP 0 rfl rfl 1 (by decide) (hts (.fieldLink RX6 13 "ButterflyYardModel" "lengths" "[I") (by decide +kernel)) (fun _ h9 => h9) rfl dX6_filter_60 ?_
      refine lv_iload_n hx hb dX6_filter_63 rfl (lv_at hl 1 rfl) ?_
      refine z_iald (cA := cI) (n := 4) (g := xl) hx hb hK hR 1 0 rfl rfl rfl (by omega) dX6_filter_64 ?_
      refine lv_aload_n hx hb dX6_filter_65 rfl (lv_at hl 0 rfl) ?_
      refine va_get (D := D) (ci := 5) (C := RX6) (T := TX6) (N := 8) hx hb hts hi6 hown hK hP 0 rfl rfl 1 (by decide) (hts (.fieldLink RX6 13 "ButterflyYardModel" "lengths" "[I") (by decide +kernel)) (fun _ h9 => h9) rfl dX6_filter_66 ?_
      refine lv_iload_n hx hb dX6_filter_69 rfl (lv_at hl 2 rfl) ?_
      refine z_iald (cA := cI) (n := 4) (g := xl) hx hb hK hR 1 0 rfl rfl rfl (by omega) dX6_filter_70 ?_
      refine z_iadd hx hb dX6_filter_71 ?_
      refine z_iconst hx hb dX6_filter_72 ?_
      refine z_isub hx hb dX6_filter_73 ?_
      refine lv_istore (lv' := [(7, .int (zI (((xl a) + (xl b)) - 1))), (0, .ref h0), (1, .int (zI a)), (2, .int (zI b)), (3, .int (zI t)), (4, .int (zI bl)), (5, .int (zI sv)), (6, .int (zI 0))]) hx hb dX6_filter_74 hl (by decide) rfl (fun ls hl => ?_)
      have hl := lv_sub hl [1, 2, 3, 4, 5, 6, 7, 0] rfl
      have hl : lv_has ls 9 [(0, .ref h0), (1, .int (zI a)), (2, .int (zI b)), (3, .int (zI t)), (4, .int (zI bl)), (5, .int (zI sv)), (6, .int (zI 0)), (7, .int (zI (((xl a) + (xl b)) - 1)))] := hl
      refine lv_aload_n hx hb dX6_filter_76 rfl (lv_at hl 0 rfl) ?_
      refine lv_iload hx hb dX6_filter_77 (lv_at hl 4 rfl) ?_
      refine z_iconst hx hb dX6_filter_79 ?_
      refine z_icmp_lt (tgt := 95) hx hb dX6_filter_80 (by decide) (by omega) (fun c_80 => absurd c_80 (by omega)) (fun c_80 => ?_)
      refine lv_iload hx hb dX6_filter_83 (lv_at hl 4 rfl) ?_
      refine z_bipush hx hb dX6_filter_85 (by decide) ?_
      refine z_icmp_gt (tgt := 95) hx hb dX6_filter_87 (by decide) (by omega) (fun c_87 => ?_) (fun c_87 => absurd c_87 (by omega))
      refine z_iconst hx hb dX6_filter_95 ?_
      refine lv_goto (tgt := 129) hx hb dX6_filter_96 (by decide) ?_
      refine va_put (D := D) (ci := 5) (v := .int (zI 2)) (ty := .int) (C := RX6) (T := TX6) (N := 8) hx hb hts hi6 tyX6 tyX6_ok nmX6 hown hK hP hD hS 0 rfl rfl 7 (by decide) (hts (.fieldLink RX6 28 "ButterflyYardModel" "thrown" "I") (by decide +kernel)) (fun _ h9 => h9) rfl (by decide +kernel) rfl rfl (Nat.le_of_ble_eq_true rfl) dX6_filter_129 (fun H locs hP hD hS => ?_)
      have hP : va_P D vwCl [(h0, .inr (5, [.ref ae, .ref al, .ref ap, .ref az, .ref ar, .int (zI np), .ref am, .int (zI 2)]))] H := hP
      have hD : va_D A [(h0, .inr (5, [.ref ae, .ref al, .ref ap, .ref az, .ref ar, .int (zI np), .ref am, .int (zI 2)]))] := hD
      have hR := hR0.at hS
      refine lv_aload_n hx hb dX6_filter_132 rfl (lv_at hl 0 rfl) ?_
      refine va_get (D := D) (ci := 5) (C := RX6) (T := TX6) (N := 8) hx hb hts hi6 hown hK hP 0 rfl rfl 7 (by decide) (hts (.fieldLink RX6 28 "ButterflyYardModel" "thrown" "I") (by decide +kernel)) (fun _ h9 => h9) rfl dX6_filter_133 ?_
      refine z_if_eq (tgt := 141) hx hb dX6_filter_136 (by decide) (by omega) (fun c_136 => absurd c_136 (by omega)) (fun c_136 => ?_)
      refine z_iconst hx hb dX6_filter_139 ?_
      exact z_iret hx hb hr hlocks rfl () (rfl) (trivial) hP hD hS dX6_filter_140
    · refine z_iconst hx hb dX6_filter_52 ?_
      refine lv_goto (tgt := 57) hx hb dX6_filter_53 (by decide) ?_
      refine lv_istore (lv' := [(6, .int (zI 1)), (0, .ref h0), (1, .int (zI a)), (2, .int (zI b)), (3, .int (zI t)), (4, .int (zI bl)), (5, .int (zI sv))]) hx hb dX6_filter_57 hl (by decide) rfl (fun ls hl => ?_)
      have hl := lv_sub hl [1, 2, 3, 4, 5, 6, 0] rfl
      have hl : lv_has ls 9 [(0, .ref h0), (1, .int (zI a)), (2, .int (zI b)), (3, .int (zI t)), (4, .int (zI bl)), (5, .int (zI sv)), (6, .int (zI 1))] := hl
      refine lv_aload_n hx hb dX6_filter_59 rfl (lv_at hl 0 rfl) ?_
      refine va_get (D := D) (ci := 5) (C := RX6) (T := TX6) (N := 8) hx hb hts hi6 hown hK hP 0 rfl rfl 1 (by decide) (hts (.fieldLink RX6 13 "ButterflyYardModel" "lengths" "[I") (by decide +kernel)) (fun _ h9 => h9) rfl dX6_filter_60 ?_
      refine lv_iload_n hx hb dX6_filter_63 rfl (lv_at hl 1 rfl) ?_
      refine z_iald (cA := cI) (n := 4) (g := xl) hx hb hK hR 1 0 rfl rfl rfl (by omega) dX6_filter_64 ?_
      refine lv_aload_n hx hb dX6_filter_65 rfl (lv_at hl 0 rfl) ?_
      refine va_get (D := D) (ci := 5) (C := RX6) (T := TX6) (N := 8) hx hb hts hi6 hown hK hP 0 rfl rfl 1 (by decide) (hts (.fieldLink RX6 13 "ButterflyYardModel" "lengths" "[I") (by decide +kernel)) (fun _ h9 => h9) rfl dX6_filter_66 ?_
      refine lv_iload_n hx hb dX6_filter_69 rfl (lv_at hl 2 rfl) ?_
      refine z_iald (cA := cI) (n := 4) (g := xl) hx hb hK hR 1 0 rfl rfl rfl (by omega) dX6_filter_70 ?_
      refine z_iadd hx hb dX6_filter_71 ?_
      refine z_iconst hx hb dX6_filter_72 ?_
      refine z_isub hx hb dX6_filter_73 ?_
      refine lv_istore (lv' := [(7, .int (zI (((xl a) + (xl b)) - 1))), (0, .ref h0), (1, .int (zI a)), (2, .int (zI b)), (3, .int (zI t)), (4, .int (zI bl)), (5, .int (zI sv)), (6, .int (zI 1))]) hx hb dX6_filter_74 hl (by decide) rfl (fun ls hl => ?_)
      have hl := lv_sub hl [1, 2, 3, 4, 5, 6, 7, 0] rfl
      have hl : lv_has ls 9 [(0, .ref h0), (1, .int (zI a)), (2, .int (zI b)), (3, .int (zI t)), (4, .int (zI bl)), (5, .int (zI sv)), (6, .int (zI 1)), (7, .int (zI (((xl a) + (xl b)) - 1)))] := hl
      refine lv_aload_n hx hb dX6_filter_76 rfl (lv_at hl 0 rfl) ?_
      refine lv_iload hx hb dX6_filter_77 (lv_at hl 4 rfl) ?_
      refine z_iconst hx hb dX6_filter_79 ?_
      refine z_icmp_lt (tgt := 95) hx hb dX6_filter_80 (by decide) (by omega) (fun c_80 => absurd c_80 (by omega)) (fun c_80 => ?_)
      refine lv_iload hx hb dX6_filter_83 (lv_at hl 4 rfl) ?_
      refine z_bipush hx hb dX6_filter_85 (by decide) ?_
      refine z_icmp_gt (tgt := 95) hx hb dX6_filter_87 (by decide) (by omega) (fun c_87 => ?_) (fun c_87 => absurd c_87 (by omega))
      refine z_iconst hx hb dX6_filter_95 ?_
      refine lv_goto (tgt := 129) hx hb dX6_filter_96 (by decide) ?_
      refine va_put (D := D) (ci := 5) (v := .int (zI 2)) (ty := .int) (C := RX6) (T := TX6) (N := 8) hx hb hts hi6 tyX6 tyX6_ok nmX6 hown hK hP hD hS 0 rfl rfl 7 (by decide) (hts (.fieldLink RX6 28 "ButterflyYardModel" "thrown" "I") (by decide +kernel)) (fun _ h9 => h9) rfl (by decide +kernel) rfl rfl (Nat.le_of_ble_eq_true rfl) dX6_filter_129 (fun H locs hP hD hS => ?_)
      have hP : va_P D vwCl [(h0, .inr (5, [.ref ae, .ref al, .ref ap, .ref az, .ref ar, .int (zI np), .ref am, .int (zI 2)]))] H := hP
      have hD : va_D A [(h0, .inr (5, [.ref ae, .ref al, .ref ap, .ref az, .ref ar, .int (zI np), .ref am, .int (zI 2)]))] := hD
      have hR := hR0.at hS
      refine lv_aload_n hx hb dX6_filter_132 rfl (lv_at hl 0 rfl) ?_
      refine va_get (D := D) (ci := 5) (C := RX6) (T := TX6) (N := 8) hx hb hts hi6 hown hK hP 0 rfl rfl 7 (by decide) (hts (.fieldLink RX6 28 "ButterflyYardModel" "thrown" "I") (by decide +kernel)) (fun _ h9 => h9) rfl dX6_filter_133 ?_
      refine z_if_eq (tgt := 141) hx hb dX6_filter_136 (by decide) (by omega) (fun c_136 => absurd c_136 (by omega)) (fun c_136 => ?_)
      refine z_iconst hx hb dX6_filter_139 ?_
      exact z_iret hx hb hr hlocks rfl () (rfl) (trivial) hP hD hS dX6_filter_140

set_option maxHeartbeats 4000000 in
set_option maxRecDepth 100000 in
theorem c_X6_filter_2c (l : Launch) (D : va_G) (cI : ClassId) (h0 : Nat) (ae : Nat) (al : Nat) (ap : Nat) (az : Nat) (ar : Nat) (am : Nat) (np : Int) (th : Int) (xe : Int → Int) (xl : Int → Int) (a : Int) (b : Int) (t : Int) (bl : Int) (sv : Int) (ha_a : -2147483648 ≤ a ∧ a ≤ 2147483647) (ha_b : -2147483648 ≤ b ∧ b ≤ 2147483647) (ha_t : -2147483648 ≤ t ∧ t ≤ 2147483647) (ha_bl : -2147483648 ≤ bl ∧ bl ≤ 2147483647) (ha_sv : -2147483648 ≤ sv ∧ sv ≤ 2147483647) (hnp_ : 0 ≤ np ∧ np ≤ 8) (hr_a : 0 ≤ a ∧ a < 4) (hr_b : 0 ≤ b ∧ b < 4) (hr_t : 0 ≤ t ∧ t < 4) (hxl_a : 0 ≤ xl a ∧ xl a ≤ 64) (hxl_b : 0 ≤ xl b ∧ xl b ≤ 64) (hxe : ∀ k, 0 ≤ k → k < 256 → -1000000 ≤ xe k ∧ xe k ≤ 1000000) (hbl : 1 ≤ bl ∧ bl ≤ 32) (hwa : ¬ (∀ k, 0 ≤ k → k < xl a → -99 ≤ eRow xe a k ∧ eRow xe a k ≤ 99)) : zC l yX6_filter wsX6_filter ({ frames := 1, cells := 0, slots := 0, locals := 25 } : Room) D [(cI, .int)] [(h0, .inr (5, [.ref ae, .ref al, .ref ap, .ref az, .ref ar, .int (zI np), .ref am, .int (zI th)]))] [(ae, .inl (cI, 256, .inl (zA xe))), (al, .inl (cI, 4, .inl (zA xl)))] [.ref h0, .int (zI a), .int (zI b), .int (zI t), .int (zI bl), .int (zI sv)] (S := Unit) (fun u => True) (fun u => some (.int (zI 0))) (fun u => [(h0, .inr (5, [.ref ae, .ref al, .ref ap, .ref az, .ref ar, .int (zI np), .ref am, .int (zI 2)]))]) := by
  refine z_start (cc := cX6_filter) (maxL := 9) (ret := (some .int)) (own := RX6) (by decide) rfl rfl (Nat.le_of_ble_eq_true rfl) [(0, .ref h0), (1, .int (zI a)), (2, .int (zI b)), (3, .int (zI t)), (4, .int (zI bl)), (5, .int (zI sv))] rfl ?_
  intro pp ee s mm below meth cc A H ls hx hb hr hml hts hown hlocks hin hK hA hP hD hS hR0 hR hl
  have CF : CallFix pp mm cc cX6_filter 9 s ([.ref h0, .int (zI a), .int (zI b), .int (zI t), .int (zI bl), .int (zI sv)] : List Value).toArray wsX6_filter RX6 := ⟨hx, hb, hml, hown, hts⟩
  have hi6 : ∀ w ∈ wsX60, w ∈ wsX6_filter := by decide +kernel
  refine lv_iload_n hx hb dX6_filter_0 rfl (lv_at hl 1 rfl) ?_
  have hRc : va_P D vwCl [] H := z_nilP
  refine z_ro (ws := [(h0, .inr (5, [.ref ae, .ref al, .ref ap, .ref az, .ref ar, .int (zI np), .ref am, .int (zI th)]))]) (va_runS (As := [.int (zI a)]) (rest := []) CF (c_X6_isRow l D a (by omega) H.size) (va_cwS 1 hts gX6_filter_X6_isRow rfl rfl rfl (by decide +kernel) ⟨Nat.le_of_ble_eq_true rfl, Nat.le_of_ble_eq_true rfl⟩) (z_preS z_nilP (z_nilD (A := A)) hRc z_noX (hK.sub (tys' := []) [] rfl)) rfl rfl hl.1 rfl (lv_room (Nat.le_of_ble_eq_true rfl)) dX6_filter_1 ⟨Nat.le_of_ble_eq_true rfl, Nat.le_of_ble_eq_true rfl⟩) hP hS hA (cells' := 0) (slots' := 0) rfl rfl (fun H locs hP hS => ?_)
  have hR := hR0.at hS
  refine z_ifB_eq (tgt := 21) hx hb dX6_filter_4 (by decide) (fun c_4 => absurd c_4 (by omega)) (fun c_4 => ?_)
  refine lv_iload_n hx hb dX6_filter_7 rfl (lv_at hl 2 rfl) ?_
  have hRc : va_P D vwCl [] H := z_nilP
  refine z_ro (ws := [(h0, .inr (5, [.ref ae, .ref al, .ref ap, .ref az, .ref ar, .int (zI np), .ref am, .int (zI th)]))]) (va_runS (As := [.int (zI b)]) (rest := []) CF (c_X6_isRow l D b (by omega) H.size) (va_cwS 1 hts gX6_filter_X6_isRow rfl rfl rfl (by decide +kernel) ⟨Nat.le_of_ble_eq_true rfl, Nat.le_of_ble_eq_true rfl⟩) (z_preS z_nilP (z_nilD (A := A)) hRc z_noX (hK.sub (tys' := []) [] rfl)) rfl rfl hl.1 rfl (lv_room (Nat.le_of_ble_eq_true rfl)) dX6_filter_8 ⟨Nat.le_of_ble_eq_true rfl, Nat.le_of_ble_eq_true rfl⟩) hP hS hA (cells' := 0) (slots' := 0) rfl rfl (fun H locs hP hS => ?_)
  have hR := hR0.at hS
  refine z_ifB_eq (tgt := 21) hx hb dX6_filter_11 (by decide) (fun c_11 => absurd c_11 (by omega)) (fun c_11 => ?_)
  refine lv_iload_n hx hb dX6_filter_14 rfl (lv_at hl 3 rfl) ?_
  have hRc : va_P D vwCl [] H := z_nilP
  refine z_ro (ws := [(h0, .inr (5, [.ref ae, .ref al, .ref ap, .ref az, .ref ar, .int (zI np), .ref am, .int (zI th)]))]) (va_runS (As := [.int (zI t)]) (rest := []) CF (c_X6_isRow l D t (by omega) H.size) (va_cwS 1 hts gX6_filter_X6_isRow rfl rfl rfl (by decide +kernel) ⟨Nat.le_of_ble_eq_true rfl, Nat.le_of_ble_eq_true rfl⟩) (z_preS z_nilP (z_nilD (A := A)) hRc z_noX (hK.sub (tys' := []) [] rfl)) rfl rfl hl.1 rfl (lv_room (Nat.le_of_ble_eq_true rfl)) dX6_filter_15 ⟨Nat.le_of_ble_eq_true rfl, Nat.le_of_ble_eq_true rfl⟩) hP hS hA (cells' := 0) (slots' := 0) rfl rfl (fun H locs hP hS => ?_)
  have hR := hR0.at hS
  refine z_ifB_ne (tgt := 28) hx hb dX6_filter_18 (by decide) (fun c_18 => ?_) (fun c_18 => absurd c_18 (by omega))
  refine lv_aload_n hx hb dX6_filter_28 rfl (lv_at hl 0 rfl) ?_
  refine lv_iload_n hx hb dX6_filter_29 rfl (lv_at hl 1 rfl) ?_
  refine z_bipush hx hb dX6_filter_30 (by decide) ?_
  refine z_bipush hx hb dX6_filter_32 (by decide) ?_
  have hRc := z_subR (ws := [(h0, .inr (5, [.ref ae, .ref al, .ref ap, .ref az, .ref ar, .int (zI np), .ref am, .int (zI th)]))]) (rs := [(ae, .inl (cI, 256, .inl (zA xe))), (al, .inl (cI, 4, .inl (zA xl)))]) (rc := [(h0, .inr (5, [.ref ae, .ref al, .ref ap, .ref az, .ref ar, .int (zI np), .ref am, .int (zI th)])), (ae, .inl (cI, 256, .inl (zA xe))), (al, .inl (cI, 4, .inl (zA xl)))]) hP hR (isR := [0, 1, 2]) rfl
  refine z_ro (ws := [(h0, .inr (5, [.ref ae, .ref al, .ref ap, .ref az, .ref ar, .int (zI np), .ref am, .int (zI th)]))]) (va_runV (As := [.int (zI a), .int (zI (-99)), .int (zI 99)]) (rest := []) CF (c_X6_isWithin l D cI h0 ae al ap az ar am np th xe xl a (-99) 99 (by omega) (by omega) (by exact hxe) (by omega) (by omega) H.size) (cwV 3 hts gX6_filter_X6_isWithin rfl rfl rfl (by decide +kernel) ⟨Nat.le_of_ble_eq_true rfl, Nat.le_of_ble_eq_true rfl⟩) (z_preV (va_recv hK hP (ci := 5) (q0 := 0) rfl rfl) z_nilP (z_nilD (A := A)) hRc z_noX (hK.sub (tys' := [(cI, .int)]) [0] rfl)) rfl rfl hl.1 rfl (lv_room (Nat.le_of_ble_eq_true rfl)) dX6_filter_34 ⟨Nat.le_of_ble_eq_true rfl, Nat.le_of_ble_eq_true rfl⟩) hP hS hA (cells' := 0) (slots' := 0) rfl rfl (fun H locs hP hS => ?_)
  have hR := hR0.at hS
  refine z_ifB_eq (tgt := 56) hx hb dX6_filter_37 (by decide) (fun c_37 => ?_) (fun c_37 => absurd c_37 (by exact fun z => hwa (fun k h1 h2 => of_decide_eq_true ((zAll_iff _ _).mp z k h1 (by omega)))))
  refine z_iconst hx hb dX6_filter_56 ?_
  refine lv_istore (lv' := [(6, .int (zI 0)), (0, .ref h0), (1, .int (zI a)), (2, .int (zI b)), (3, .int (zI t)), (4, .int (zI bl)), (5, .int (zI sv))]) hx hb dX6_filter_57 hl (by decide) rfl (fun ls hl => ?_)
  have hl := lv_sub hl [1, 2, 3, 4, 5, 6, 0] rfl
  have hl : lv_has ls 9 [(0, .ref h0), (1, .int (zI a)), (2, .int (zI b)), (3, .int (zI t)), (4, .int (zI bl)), (5, .int (zI sv)), (6, .int (zI 0))] := hl
  refine lv_aload_n hx hb dX6_filter_59 rfl (lv_at hl 0 rfl) ?_
  refine va_get (D := D) (ci := 5) (C := RX6) (T := TX6) (N := 8) hx hb hts hi6 hown hK hP 0 rfl rfl 1 (by decide) (hts (.fieldLink RX6 13 "ButterflyYardModel" "lengths" "[I") (by decide +kernel)) (fun _ h9 => h9) rfl dX6_filter_60 ?_
  refine lv_iload_n hx hb dX6_filter_63 rfl (lv_at hl 1 rfl) ?_
  refine z_iald (cA := cI) (n := 4) (g := xl) hx hb hK hR 1 0 rfl rfl rfl (by omega) dX6_filter_64 ?_
  refine lv_aload_n hx hb dX6_filter_65 rfl (lv_at hl 0 rfl) ?_
  refine va_get (D := D) (ci := 5) (C := RX6) (T := TX6) (N := 8) hx hb hts hi6 hown hK hP 0 rfl rfl 1 (by decide) (hts (.fieldLink RX6 13 "ButterflyYardModel" "lengths" "[I") (by decide +kernel)) (fun _ h9 => h9) rfl dX6_filter_66 ?_
  refine lv_iload_n hx hb dX6_filter_69 rfl (lv_at hl 2 rfl) ?_
  refine z_iald (cA := cI) (n := 4) (g := xl) hx hb hK hR 1 0 rfl rfl rfl (by omega) dX6_filter_70 ?_
  refine z_iadd hx hb dX6_filter_71 ?_
  refine z_iconst hx hb dX6_filter_72 ?_
  refine z_isub hx hb dX6_filter_73 ?_
  refine lv_istore (lv' := [(7, .int (zI (((xl a) + (xl b)) - 1))), (0, .ref h0), (1, .int (zI a)), (2, .int (zI b)), (3, .int (zI t)), (4, .int (zI bl)), (5, .int (zI sv)), (6, .int (zI 0))]) hx hb dX6_filter_74 hl (by decide) rfl (fun ls hl => ?_)
  have hl := lv_sub hl [1, 2, 3, 4, 5, 6, 7, 0] rfl
  have hl : lv_has ls 9 [(0, .ref h0), (1, .int (zI a)), (2, .int (zI b)), (3, .int (zI t)), (4, .int (zI bl)), (5, .int (zI sv)), (6, .int (zI 0)), (7, .int (zI (((xl a) + (xl b)) - 1)))] := hl
  refine lv_aload_n hx hb dX6_filter_76 rfl (lv_at hl 0 rfl) ?_
  refine lv_iload hx hb dX6_filter_77 (lv_at hl 4 rfl) ?_
  refine z_iconst hx hb dX6_filter_79 ?_
  refine z_icmp_lt (tgt := 95) hx hb dX6_filter_80 (by decide) (by omega) (fun c_80 => absurd c_80 (by omega)) (fun c_80 => ?_)
  refine lv_iload hx hb dX6_filter_83 (lv_at hl 4 rfl) ?_
  refine z_bipush hx hb dX6_filter_85 (by decide) ?_
  refine z_icmp_gt (tgt := 95) hx hb dX6_filter_87 (by decide) (by omega) (fun c_87 => absurd c_87 (by omega)) (fun c_87 => ?_)
  refine lv_iload hx hb dX6_filter_90 (lv_at hl 6 rfl) ?_
  refine z_if_ne (tgt := 99) hx hb dX6_filter_92 (by decide) (by omega) (fun c_92 => absurd c_92 (by omega)) (fun c_92 => ?_)
  refine z_iconst hx hb dX6_filter_95 ?_
  refine lv_goto (tgt := 129) hx hb dX6_filter_96 (by decide) ?_
  refine va_put (D := D) (ci := 5) (v := .int (zI 2)) (ty := .int) (C := RX6) (T := TX6) (N := 8) hx hb hts hi6 tyX6 tyX6_ok nmX6 hown hK hP hD hS 0 rfl rfl 7 (by decide) (hts (.fieldLink RX6 28 "ButterflyYardModel" "thrown" "I") (by decide +kernel)) (fun _ h9 => h9) rfl (by decide +kernel) rfl rfl (Nat.le_of_ble_eq_true rfl) dX6_filter_129 (fun H locs hP hD hS => ?_)
  have hP : va_P D vwCl [(h0, .inr (5, [.ref ae, .ref al, .ref ap, .ref az, .ref ar, .int (zI np), .ref am, .int (zI 2)]))] H := hP
  have hD : va_D A [(h0, .inr (5, [.ref ae, .ref al, .ref ap, .ref az, .ref ar, .int (zI np), .ref am, .int (zI 2)]))] := hD
  have hR := hR0.at hS
  refine lv_aload_n hx hb dX6_filter_132 rfl (lv_at hl 0 rfl) ?_
  refine va_get (D := D) (ci := 5) (C := RX6) (T := TX6) (N := 8) hx hb hts hi6 hown hK hP 0 rfl rfl 7 (by decide) (hts (.fieldLink RX6 28 "ButterflyYardModel" "thrown" "I") (by decide +kernel)) (fun _ h9 => h9) rfl dX6_filter_133 ?_
  refine z_if_eq (tgt := 141) hx hb dX6_filter_136 (by decide) (by omega) (fun c_136 => absurd c_136 (by omega)) (fun c_136 => ?_)
  refine z_iconst hx hb dX6_filter_139 ?_
  exact z_iret hx hb hr hlocks rfl () (rfl) (trivial) hP hD hS dX6_filter_140

set_option maxHeartbeats 4000000 in
set_option maxRecDepth 100000 in
theorem c_X6_filter_2d (l : Launch) (D : va_G) (cI : ClassId) (h0 : Nat) (ae : Nat) (al : Nat) (ap : Nat) (az : Nat) (ar : Nat) (am : Nat) (np : Int) (th : Int) (xe : Int → Int) (xl : Int → Int) (a : Int) (b : Int) (t : Int) (bl : Int) (sv : Int) (ha_a : -2147483648 ≤ a ∧ a ≤ 2147483647) (ha_b : -2147483648 ≤ b ∧ b ≤ 2147483647) (ha_t : -2147483648 ≤ t ∧ t ≤ 2147483647) (ha_bl : -2147483648 ≤ bl ∧ bl ≤ 2147483647) (ha_sv : -2147483648 ≤ sv ∧ sv ≤ 2147483647) (hnp_ : 0 ≤ np ∧ np ≤ 8) (hr_a : 0 ≤ a ∧ a < 4) (hr_b : 0 ≤ b ∧ b < 4) (hr_t : 0 ≤ t ∧ t < 4) (hxl_a : 0 ≤ xl a ∧ xl a ≤ 64) (hxl_b : 0 ≤ xl b ∧ xl b ≤ 64) (hxe : ∀ k, 0 ≤ k → k < 256 → -1000000 ≤ xe k ∧ xe k ≤ 1000000) (hbl : 1 ≤ bl ∧ bl ≤ 32) (hwa : ∀ k, 0 ≤ k → k < xl a → -99 ≤ eRow xe a k ∧ eRow xe a k ≤ 99) (hwb : ¬ (∀ k, 0 ≤ k → k < xl b → -99 ≤ eRow xe b k ∧ eRow xe b k ≤ 99)) : zC l yX6_filter wsX6_filter ({ frames := 1, cells := 0, slots := 0, locals := 25 } : Room) D [(cI, .int)] [(h0, .inr (5, [.ref ae, .ref al, .ref ap, .ref az, .ref ar, .int (zI np), .ref am, .int (zI th)]))] [(ae, .inl (cI, 256, .inl (zA xe))), (al, .inl (cI, 4, .inl (zA xl)))] [.ref h0, .int (zI a), .int (zI b), .int (zI t), .int (zI bl), .int (zI sv)] (S := Unit) (fun u => True) (fun u => some (.int (zI 0))) (fun u => [(h0, .inr (5, [.ref ae, .ref al, .ref ap, .ref az, .ref ar, .int (zI np), .ref am, .int (zI 2)]))]) := by
  refine z_start (cc := cX6_filter) (maxL := 9) (ret := (some .int)) (own := RX6) (by decide) rfl rfl (Nat.le_of_ble_eq_true rfl) [(0, .ref h0), (1, .int (zI a)), (2, .int (zI b)), (3, .int (zI t)), (4, .int (zI bl)), (5, .int (zI sv))] rfl ?_
  intro pp ee s mm below meth cc A H ls hx hb hr hml hts hown hlocks hin hK hA hP hD hS hR0 hR hl
  have CF : CallFix pp mm cc cX6_filter 9 s ([.ref h0, .int (zI a), .int (zI b), .int (zI t), .int (zI bl), .int (zI sv)] : List Value).toArray wsX6_filter RX6 := ⟨hx, hb, hml, hown, hts⟩
  have hi6 : ∀ w ∈ wsX60, w ∈ wsX6_filter := by decide +kernel
  refine lv_iload_n hx hb dX6_filter_0 rfl (lv_at hl 1 rfl) ?_
  have hRc : va_P D vwCl [] H := z_nilP
  refine z_ro (ws := [(h0, .inr (5, [.ref ae, .ref al, .ref ap, .ref az, .ref ar, .int (zI np), .ref am, .int (zI th)]))]) (va_runS (As := [.int (zI a)]) (rest := []) CF (c_X6_isRow l D a (by omega) H.size) (va_cwS 1 hts gX6_filter_X6_isRow rfl rfl rfl (by decide +kernel) ⟨Nat.le_of_ble_eq_true rfl, Nat.le_of_ble_eq_true rfl⟩) (z_preS z_nilP (z_nilD (A := A)) hRc z_noX (hK.sub (tys' := []) [] rfl)) rfl rfl hl.1 rfl (lv_room (Nat.le_of_ble_eq_true rfl)) dX6_filter_1 ⟨Nat.le_of_ble_eq_true rfl, Nat.le_of_ble_eq_true rfl⟩) hP hS hA (cells' := 0) (slots' := 0) rfl rfl (fun H locs hP hS => ?_)
  have hR := hR0.at hS
  refine z_ifB_eq (tgt := 21) hx hb dX6_filter_4 (by decide) (fun c_4 => absurd c_4 (by omega)) (fun c_4 => ?_)
  refine lv_iload_n hx hb dX6_filter_7 rfl (lv_at hl 2 rfl) ?_
  have hRc : va_P D vwCl [] H := z_nilP
  refine z_ro (ws := [(h0, .inr (5, [.ref ae, .ref al, .ref ap, .ref az, .ref ar, .int (zI np), .ref am, .int (zI th)]))]) (va_runS (As := [.int (zI b)]) (rest := []) CF (c_X6_isRow l D b (by omega) H.size) (va_cwS 1 hts gX6_filter_X6_isRow rfl rfl rfl (by decide +kernel) ⟨Nat.le_of_ble_eq_true rfl, Nat.le_of_ble_eq_true rfl⟩) (z_preS z_nilP (z_nilD (A := A)) hRc z_noX (hK.sub (tys' := []) [] rfl)) rfl rfl hl.1 rfl (lv_room (Nat.le_of_ble_eq_true rfl)) dX6_filter_8 ⟨Nat.le_of_ble_eq_true rfl, Nat.le_of_ble_eq_true rfl⟩) hP hS hA (cells' := 0) (slots' := 0) rfl rfl (fun H locs hP hS => ?_)
  have hR := hR0.at hS
  refine z_ifB_eq (tgt := 21) hx hb dX6_filter_11 (by decide) (fun c_11 => absurd c_11 (by omega)) (fun c_11 => ?_)
  refine lv_iload_n hx hb dX6_filter_14 rfl (lv_at hl 3 rfl) ?_
  have hRc : va_P D vwCl [] H := z_nilP
  refine z_ro (ws := [(h0, .inr (5, [.ref ae, .ref al, .ref ap, .ref az, .ref ar, .int (zI np), .ref am, .int (zI th)]))]) (va_runS (As := [.int (zI t)]) (rest := []) CF (c_X6_isRow l D t (by omega) H.size) (va_cwS 1 hts gX6_filter_X6_isRow rfl rfl rfl (by decide +kernel) ⟨Nat.le_of_ble_eq_true rfl, Nat.le_of_ble_eq_true rfl⟩) (z_preS z_nilP (z_nilD (A := A)) hRc z_noX (hK.sub (tys' := []) [] rfl)) rfl rfl hl.1 rfl (lv_room (Nat.le_of_ble_eq_true rfl)) dX6_filter_15 ⟨Nat.le_of_ble_eq_true rfl, Nat.le_of_ble_eq_true rfl⟩) hP hS hA (cells' := 0) (slots' := 0) rfl rfl (fun H locs hP hS => ?_)
  have hR := hR0.at hS
  refine z_ifB_ne (tgt := 28) hx hb dX6_filter_18 (by decide) (fun c_18 => ?_) (fun c_18 => absurd c_18 (by omega))
  refine lv_aload_n hx hb dX6_filter_28 rfl (lv_at hl 0 rfl) ?_
  refine lv_iload_n hx hb dX6_filter_29 rfl (lv_at hl 1 rfl) ?_
  refine z_bipush hx hb dX6_filter_30 (by decide) ?_
  refine z_bipush hx hb dX6_filter_32 (by decide) ?_
  have hRc := z_subR (ws := [(h0, .inr (5, [.ref ae, .ref al, .ref ap, .ref az, .ref ar, .int (zI np), .ref am, .int (zI th)]))]) (rs := [(ae, .inl (cI, 256, .inl (zA xe))), (al, .inl (cI, 4, .inl (zA xl)))]) (rc := [(h0, .inr (5, [.ref ae, .ref al, .ref ap, .ref az, .ref ar, .int (zI np), .ref am, .int (zI th)])), (ae, .inl (cI, 256, .inl (zA xe))), (al, .inl (cI, 4, .inl (zA xl)))]) hP hR (isR := [0, 1, 2]) rfl
  refine z_ro (ws := [(h0, .inr (5, [.ref ae, .ref al, .ref ap, .ref az, .ref ar, .int (zI np), .ref am, .int (zI th)]))]) (va_runV (As := [.int (zI a), .int (zI (-99)), .int (zI 99)]) (rest := []) CF (c_X6_isWithin l D cI h0 ae al ap az ar am np th xe xl a (-99) 99 (by omega) (by omega) (by exact hxe) (by omega) (by omega) H.size) (cwV 3 hts gX6_filter_X6_isWithin rfl rfl rfl (by decide +kernel) ⟨Nat.le_of_ble_eq_true rfl, Nat.le_of_ble_eq_true rfl⟩) (z_preV (va_recv hK hP (ci := 5) (q0 := 0) rfl rfl) z_nilP (z_nilD (A := A)) hRc z_noX (hK.sub (tys' := [(cI, .int)]) [0] rfl)) rfl rfl hl.1 rfl (lv_room (Nat.le_of_ble_eq_true rfl)) dX6_filter_34 ⟨Nat.le_of_ble_eq_true rfl, Nat.le_of_ble_eq_true rfl⟩) hP hS hA (cells' := 0) (slots' := 0) rfl rfl (fun H locs hP hS => ?_)
  have hR := hR0.at hS
  refine z_ifB_eq (tgt := 56) hx hb dX6_filter_37 (by decide) (fun c_37 => absurd c_37 (by exact not_not_intro ((zAll_iff _ _).mpr (fun k h1 h2 => decide_eq_true (hwa k h1 (by omega)))))) (fun c_37 => ?_)
  refine lv_aload_n hx hb dX6_filter_40 rfl (lv_at hl 0 rfl) ?_
  refine lv_iload_n hx hb dX6_filter_41 rfl (lv_at hl 2 rfl) ?_
  refine z_bipush hx hb dX6_filter_42 (by decide) ?_
  refine z_bipush hx hb dX6_filter_44 (by decide) ?_
  have hRc := z_subR (ws := [(h0, .inr (5, [.ref ae, .ref al, .ref ap, .ref az, .ref ar, .int (zI np), .ref am, .int (zI th)]))]) (rs := [(ae, .inl (cI, 256, .inl (zA xe))), (al, .inl (cI, 4, .inl (zA xl)))]) (rc := [(h0, .inr (5, [.ref ae, .ref al, .ref ap, .ref az, .ref ar, .int (zI np), .ref am, .int (zI th)])), (ae, .inl (cI, 256, .inl (zA xe))), (al, .inl (cI, 4, .inl (zA xl)))]) hP hR (isR := [0, 1, 2]) rfl
  refine z_ro (ws := [(h0, .inr (5, [.ref ae, .ref al, .ref ap, .ref az, .ref ar, .int (zI np), .ref am, .int (zI th)]))]) (va_runV (As := [.int (zI b), .int (zI (-99)), .int (zI 99)]) (rest := []) CF (c_X6_isWithin l D cI h0 ae al ap az ar am np th xe xl b (-99) 99 (by omega) (by omega) (by exact hxe) (by omega) (by omega) H.size) (cwV 3 hts gX6_filter_X6_isWithin rfl rfl rfl (by decide +kernel) ⟨Nat.le_of_ble_eq_true rfl, Nat.le_of_ble_eq_true rfl⟩) (z_preV (va_recv hK hP (ci := 5) (q0 := 0) rfl rfl) z_nilP (z_nilD (A := A)) hRc z_noX (hK.sub (tys' := [(cI, .int)]) [0] rfl)) rfl rfl hl.1 rfl (lv_room (Nat.le_of_ble_eq_true rfl)) dX6_filter_46 ⟨Nat.le_of_ble_eq_true rfl, Nat.le_of_ble_eq_true rfl⟩) hP hS hA (cells' := 0) (slots' := 0) rfl rfl (fun H locs hP hS => ?_)
  have hR := hR0.at hS
  refine z_ifB_eq (tgt := 56) hx hb dX6_filter_49 (by decide) (fun c_49 => ?_) (fun c_49 => absurd c_49 (by exact fun z => hwb (fun k h1 h2 => of_decide_eq_true ((zAll_iff _ _).mp z k h1 (by omega)))))
  refine z_iconst hx hb dX6_filter_56 ?_
  refine lv_istore (lv' := [(6, .int (zI 0)), (0, .ref h0), (1, .int (zI a)), (2, .int (zI b)), (3, .int (zI t)), (4, .int (zI bl)), (5, .int (zI sv))]) hx hb dX6_filter_57 hl (by decide) rfl (fun ls hl => ?_)
  have hl := lv_sub hl [1, 2, 3, 4, 5, 6, 0] rfl
  have hl : lv_has ls 9 [(0, .ref h0), (1, .int (zI a)), (2, .int (zI b)), (3, .int (zI t)), (4, .int (zI bl)), (5, .int (zI sv)), (6, .int (zI 0))] := hl
  refine lv_aload_n hx hb dX6_filter_59 rfl (lv_at hl 0 rfl) ?_
  refine va_get (D := D) (ci := 5) (C := RX6) (T := TX6) (N := 8) hx hb hts hi6 hown hK hP 0 rfl rfl 1 (by decide) (hts (.fieldLink RX6 13 "ButterflyYardModel" "lengths" "[I") (by decide +kernel)) (fun _ h9 => h9) rfl dX6_filter_60 ?_
  refine lv_iload_n hx hb dX6_filter_63 rfl (lv_at hl 1 rfl) ?_
  refine z_iald (cA := cI) (n := 4) (g := xl) hx hb hK hR 1 0 rfl rfl rfl (by omega) dX6_filter_64 ?_
  refine lv_aload_n hx hb dX6_filter_65 rfl (lv_at hl 0 rfl) ?_
  refine va_get (D := D) (ci := 5) (C := RX6) (T := TX6) (N := 8) hx hb hts hi6 hown hK hP 0 rfl rfl 1 (by decide) (hts (.fieldLink RX6 13 "ButterflyYardModel" "lengths" "[I") (by decide +kernel)) (fun _ h9 => h9) rfl dX6_filter_66 ?_
  refine lv_iload_n hx hb dX6_filter_69 rfl (lv_at hl 2 rfl) ?_
  refine z_iald (cA := cI) (n := 4) (g := xl) hx hb hK hR 1 0 rfl rfl rfl (by omega) dX6_filter_70 ?_
  refine z_iadd hx hb dX6_filter_71 ?_
  refine z_iconst hx hb dX6_filter_72 ?_
  refine z_isub hx hb dX6_filter_73 ?_
  refine lv_istore (lv' := [(7, .int (zI (((xl a) + (xl b)) - 1))), (0, .ref h0), (1, .int (zI a)), (2, .int (zI b)), (3, .int (zI t)), (4, .int (zI bl)), (5, .int (zI sv)), (6, .int (zI 0))]) hx hb dX6_filter_74 hl (by decide) rfl (fun ls hl => ?_)
  have hl := lv_sub hl [1, 2, 3, 4, 5, 6, 7, 0] rfl
  have hl : lv_has ls 9 [(0, .ref h0), (1, .int (zI a)), (2, .int (zI b)), (3, .int (zI t)), (4, .int (zI bl)), (5, .int (zI sv)), (6, .int (zI 0)), (7, .int (zI (((xl a) + (xl b)) - 1)))] := hl
  refine lv_aload_n hx hb dX6_filter_76 rfl (lv_at hl 0 rfl) ?_
  refine lv_iload hx hb dX6_filter_77 (lv_at hl 4 rfl) ?_
  refine z_iconst hx hb dX6_filter_79 ?_
  refine z_icmp_lt (tgt := 95) hx hb dX6_filter_80 (by decide) (by omega) (fun c_80 => absurd c_80 (by omega)) (fun c_80 => ?_)
  refine lv_iload hx hb dX6_filter_83 (lv_at hl 4 rfl) ?_
  refine z_bipush hx hb dX6_filter_85 (by decide) ?_
  refine z_icmp_gt (tgt := 95) hx hb dX6_filter_87 (by decide) (by omega) (fun c_87 => absurd c_87 (by omega)) (fun c_87 => ?_)
  refine lv_iload hx hb dX6_filter_90 (lv_at hl 6 rfl) ?_
  refine z_if_ne (tgt := 99) hx hb dX6_filter_92 (by decide) (by omega) (fun c_92 => absurd c_92 (by omega)) (fun c_92 => ?_)
  refine z_iconst hx hb dX6_filter_95 ?_
  refine lv_goto (tgt := 129) hx hb dX6_filter_96 (by decide) ?_
  refine va_put (D := D) (ci := 5) (v := .int (zI 2)) (ty := .int) (C := RX6) (T := TX6) (N := 8) hx hb hts hi6 tyX6 tyX6_ok nmX6 hown hK hP hD hS 0 rfl rfl 7 (by decide) (hts (.fieldLink RX6 28 "ButterflyYardModel" "thrown" "I") (by decide +kernel)) (fun _ h9 => h9) rfl (by decide +kernel) rfl rfl (Nat.le_of_ble_eq_true rfl) dX6_filter_129 (fun H locs hP hD hS => ?_)
  have hP : va_P D vwCl [(h0, .inr (5, [.ref ae, .ref al, .ref ap, .ref az, .ref ar, .int (zI np), .ref am, .int (zI 2)]))] H := hP
  have hD : va_D A [(h0, .inr (5, [.ref ae, .ref al, .ref ap, .ref az, .ref ar, .int (zI np), .ref am, .int (zI 2)]))] := hD
  have hR := hR0.at hS
  refine lv_aload_n hx hb dX6_filter_132 rfl (lv_at hl 0 rfl) ?_
  refine va_get (D := D) (ci := 5) (C := RX6) (T := TX6) (N := 8) hx hb hts hi6 hown hK hP 0 rfl rfl 7 (by decide) (hts (.fieldLink RX6 28 "ButterflyYardModel" "thrown" "I") (by decide +kernel)) (fun _ h9 => h9) rfl dX6_filter_133 ?_
  refine z_if_eq (tgt := 141) hx hb dX6_filter_136 (by decide) (by omega) (fun c_136 => absurd c_136 (by omega)) (fun c_136 => ?_)
  refine z_iconst hx hb dX6_filter_139 ?_
  exact z_iret hx hb hr hlocks rfl () (rfl) (trivial) hP hD hS dX6_filter_140

set_option maxHeartbeats 4000000 in
set_option maxRecDepth 100000 in
theorem c_X6_filter_3a (l : Launch) (D : va_G) (cI : ClassId) (h0 : Nat) (ae : Nat) (al : Nat) (ap : Nat) (az : Nat) (ar : Nat) (am : Nat) (np : Int) (th : Int) (xe : Int → Int) (xl : Int → Int) (a : Int) (b : Int) (t : Int) (bl : Int) (sv : Int) (ha_a : -2147483648 ≤ a ∧ a ≤ 2147483647) (ha_b : -2147483648 ≤ b ∧ b ≤ 2147483647) (ha_t : -2147483648 ≤ t ∧ t ≤ 2147483647) (ha_bl : -2147483648 ≤ bl ∧ bl ≤ 2147483647) (ha_sv : -2147483648 ≤ sv ∧ sv ≤ 2147483647) (hnp_ : 0 ≤ np ∧ np ≤ 8) (hr_a : 0 ≤ a ∧ a < 4) (hr_b : 0 ≤ b ∧ b < 4) (hr_t : 0 ≤ t ∧ t < 4) (hxl_a : 0 ≤ xl a ∧ xl a ≤ 64) (hxl_b : 0 ≤ xl b ∧ xl b ≤ 64) (hxe : ∀ k, 0 ≤ k → k < 256 → -1000000 ≤ xe k ∧ xe k ≤ 1000000) (hbl : 1 ≤ bl ∧ bl ≤ 32) (hwa : ∀ k, 0 ≤ k → k < xl a → -99 ≤ eRow xe a k ∧ eRow xe a k ≤ 99) (hwb : ∀ k, 0 ≤ k → k < xl b → -99 ≤ eRow xe b k ∧ eRow xe b k ≤ 99) (hla : xl a = 0) : zC l yX6_filter wsX6_filter ({ frames := 1, cells := 0, slots := 0, locals := 25 } : Room) D [(cI, .int)] [(h0, .inr (5, [.ref ae, .ref al, .ref ap, .ref az, .ref ar, .int (zI np), .ref am, .int (zI th)]))] [(ae, .inl (cI, 256, .inl (zA xe))), (al, .inl (cI, 4, .inl (zA xl)))] [.ref h0, .int (zI a), .int (zI b), .int (zI t), .int (zI bl), .int (zI sv)] (S := Unit) (fun u => True) (fun u => some (.int (zI 0))) (fun u => [(h0, .inr (5, [.ref ae, .ref al, .ref ap, .ref az, .ref ar, .int (zI np), .ref am, .int (zI 3)]))]) := by
  refine z_start (cc := cX6_filter) (maxL := 9) (ret := (some .int)) (own := RX6) (by decide) rfl rfl (Nat.le_of_ble_eq_true rfl) [(0, .ref h0), (1, .int (zI a)), (2, .int (zI b)), (3, .int (zI t)), (4, .int (zI bl)), (5, .int (zI sv))] rfl ?_
  intro pp ee s mm below meth cc A H ls hx hb hr hml hts hown hlocks hin hK hA hP hD hS hR0 hR hl
  have CF : CallFix pp mm cc cX6_filter 9 s ([.ref h0, .int (zI a), .int (zI b), .int (zI t), .int (zI bl), .int (zI sv)] : List Value).toArray wsX6_filter RX6 := ⟨hx, hb, hml, hown, hts⟩
  have hi6 : ∀ w ∈ wsX60, w ∈ wsX6_filter := by decide +kernel
  refine lv_iload_n hx hb dX6_filter_0 rfl (lv_at hl 1 rfl) ?_
  have hRc : va_P D vwCl [] H := z_nilP
  refine z_ro (ws := [(h0, .inr (5, [.ref ae, .ref al, .ref ap, .ref az, .ref ar, .int (zI np), .ref am, .int (zI th)]))]) (va_runS (As := [.int (zI a)]) (rest := []) CF (c_X6_isRow l D a (by omega) H.size) (va_cwS 1 hts gX6_filter_X6_isRow rfl rfl rfl (by decide +kernel) ⟨Nat.le_of_ble_eq_true rfl, Nat.le_of_ble_eq_true rfl⟩) (z_preS z_nilP (z_nilD (A := A)) hRc z_noX (hK.sub (tys' := []) [] rfl)) rfl rfl hl.1 rfl (lv_room (Nat.le_of_ble_eq_true rfl)) dX6_filter_1 ⟨Nat.le_of_ble_eq_true rfl, Nat.le_of_ble_eq_true rfl⟩) hP hS hA (cells' := 0) (slots' := 0) rfl rfl (fun H locs hP hS => ?_)
  have hR := hR0.at hS
  refine z_ifB_eq (tgt := 21) hx hb dX6_filter_4 (by decide) (fun c_4 => absurd c_4 (by omega)) (fun c_4 => ?_)
  refine lv_iload_n hx hb dX6_filter_7 rfl (lv_at hl 2 rfl) ?_
  have hRc : va_P D vwCl [] H := z_nilP
  refine z_ro (ws := [(h0, .inr (5, [.ref ae, .ref al, .ref ap, .ref az, .ref ar, .int (zI np), .ref am, .int (zI th)]))]) (va_runS (As := [.int (zI b)]) (rest := []) CF (c_X6_isRow l D b (by omega) H.size) (va_cwS 1 hts gX6_filter_X6_isRow rfl rfl rfl (by decide +kernel) ⟨Nat.le_of_ble_eq_true rfl, Nat.le_of_ble_eq_true rfl⟩) (z_preS z_nilP (z_nilD (A := A)) hRc z_noX (hK.sub (tys' := []) [] rfl)) rfl rfl hl.1 rfl (lv_room (Nat.le_of_ble_eq_true rfl)) dX6_filter_8 ⟨Nat.le_of_ble_eq_true rfl, Nat.le_of_ble_eq_true rfl⟩) hP hS hA (cells' := 0) (slots' := 0) rfl rfl (fun H locs hP hS => ?_)
  have hR := hR0.at hS
  refine z_ifB_eq (tgt := 21) hx hb dX6_filter_11 (by decide) (fun c_11 => absurd c_11 (by omega)) (fun c_11 => ?_)
  refine lv_iload_n hx hb dX6_filter_14 rfl (lv_at hl 3 rfl) ?_
  have hRc : va_P D vwCl [] H := z_nilP
  refine z_ro (ws := [(h0, .inr (5, [.ref ae, .ref al, .ref ap, .ref az, .ref ar, .int (zI np), .ref am, .int (zI th)]))]) (va_runS (As := [.int (zI t)]) (rest := []) CF (c_X6_isRow l D t (by omega) H.size) (va_cwS 1 hts gX6_filter_X6_isRow rfl rfl rfl (by decide +kernel) ⟨Nat.le_of_ble_eq_true rfl, Nat.le_of_ble_eq_true rfl⟩) (z_preS z_nilP (z_nilD (A := A)) hRc z_noX (hK.sub (tys' := []) [] rfl)) rfl rfl hl.1 rfl (lv_room (Nat.le_of_ble_eq_true rfl)) dX6_filter_15 ⟨Nat.le_of_ble_eq_true rfl, Nat.le_of_ble_eq_true rfl⟩) hP hS hA (cells' := 0) (slots' := 0) rfl rfl (fun H locs hP hS => ?_)
  have hR := hR0.at hS
  refine z_ifB_ne (tgt := 28) hx hb dX6_filter_18 (by decide) (fun c_18 => ?_) (fun c_18 => absurd c_18 (by omega))
  refine lv_aload_n hx hb dX6_filter_28 rfl (lv_at hl 0 rfl) ?_
  refine lv_iload_n hx hb dX6_filter_29 rfl (lv_at hl 1 rfl) ?_
  refine z_bipush hx hb dX6_filter_30 (by decide) ?_
  refine z_bipush hx hb dX6_filter_32 (by decide) ?_
  have hRc := z_subR (ws := [(h0, .inr (5, [.ref ae, .ref al, .ref ap, .ref az, .ref ar, .int (zI np), .ref am, .int (zI th)]))]) (rs := [(ae, .inl (cI, 256, .inl (zA xe))), (al, .inl (cI, 4, .inl (zA xl)))]) (rc := [(h0, .inr (5, [.ref ae, .ref al, .ref ap, .ref az, .ref ar, .int (zI np), .ref am, .int (zI th)])), (ae, .inl (cI, 256, .inl (zA xe))), (al, .inl (cI, 4, .inl (zA xl)))]) hP hR (isR := [0, 1, 2]) rfl
  refine z_ro (ws := [(h0, .inr (5, [.ref ae, .ref al, .ref ap, .ref az, .ref ar, .int (zI np), .ref am, .int (zI th)]))]) (va_runV (As := [.int (zI a), .int (zI (-99)), .int (zI 99)]) (rest := []) CF (c_X6_isWithin l D cI h0 ae al ap az ar am np th xe xl a (-99) 99 (by omega) (by omega) (by exact hxe) (by omega) (by omega) H.size) (cwV 3 hts gX6_filter_X6_isWithin rfl rfl rfl (by decide +kernel) ⟨Nat.le_of_ble_eq_true rfl, Nat.le_of_ble_eq_true rfl⟩) (z_preV (va_recv hK hP (ci := 5) (q0 := 0) rfl rfl) z_nilP (z_nilD (A := A)) hRc z_noX (hK.sub (tys' := [(cI, .int)]) [0] rfl)) rfl rfl hl.1 rfl (lv_room (Nat.le_of_ble_eq_true rfl)) dX6_filter_34 ⟨Nat.le_of_ble_eq_true rfl, Nat.le_of_ble_eq_true rfl⟩) hP hS hA (cells' := 0) (slots' := 0) rfl rfl (fun H locs hP hS => ?_)
  have hR := hR0.at hS
  refine z_ifB_eq (tgt := 56) hx hb dX6_filter_37 (by decide) (fun c_37 => absurd c_37 (by exact not_not_intro ((zAll_iff _ _).mpr (fun k h1 h2 => decide_eq_true (hwa k h1 (by omega)))))) (fun c_37 => ?_)
  refine lv_aload_n hx hb dX6_filter_40 rfl (lv_at hl 0 rfl) ?_
  refine lv_iload_n hx hb dX6_filter_41 rfl (lv_at hl 2 rfl) ?_
  refine z_bipush hx hb dX6_filter_42 (by decide) ?_
  refine z_bipush hx hb dX6_filter_44 (by decide) ?_
  have hRc := z_subR (ws := [(h0, .inr (5, [.ref ae, .ref al, .ref ap, .ref az, .ref ar, .int (zI np), .ref am, .int (zI th)]))]) (rs := [(ae, .inl (cI, 256, .inl (zA xe))), (al, .inl (cI, 4, .inl (zA xl)))]) (rc := [(h0, .inr (5, [.ref ae, .ref al, .ref ap, .ref az, .ref ar, .int (zI np), .ref am, .int (zI th)])), (ae, .inl (cI, 256, .inl (zA xe))), (al, .inl (cI, 4, .inl (zA xl)))]) hP hR (isR := [0, 1, 2]) rfl
  refine z_ro (ws := [(h0, .inr (5, [.ref ae, .ref al, .ref ap, .ref az, .ref ar, .int (zI np), .ref am, .int (zI th)]))]) (va_runV (As := [.int (zI b), .int (zI (-99)), .int (zI 99)]) (rest := []) CF (c_X6_isWithin l D cI h0 ae al ap az ar am np th xe xl b (-99) 99 (by omega) (by omega) (by exact hxe) (by omega) (by omega) H.size) (cwV 3 hts gX6_filter_X6_isWithin rfl rfl rfl (by decide +kernel) ⟨Nat.le_of_ble_eq_true rfl, Nat.le_of_ble_eq_true rfl⟩) (z_preV (va_recv hK hP (ci := 5) (q0 := 0) rfl rfl) z_nilP (z_nilD (A := A)) hRc z_noX (hK.sub (tys' := [(cI, .int)]) [0] rfl)) rfl rfl hl.1 rfl (lv_room (Nat.le_of_ble_eq_true rfl)) dX6_filter_46 ⟨Nat.le_of_ble_eq_true rfl, Nat.le_of_ble_eq_true rfl⟩) hP hS hA (cells' := 0) (slots' := 0) rfl rfl (fun H locs hP hS => ?_)
  have hR := hR0.at hS
  refine z_ifB_eq (tgt := 56) hx hb dX6_filter_49 (by decide) (fun c_49 => absurd c_49 (by exact not_not_intro ((zAll_iff _ _).mpr (fun k h1 h2 => decide_eq_true (hwb k h1 (by omega)))))) (fun c_49 => ?_)
  refine z_iconst hx hb dX6_filter_52 ?_
  refine lv_goto (tgt := 57) hx hb dX6_filter_53 (by decide) ?_
  refine lv_istore (lv' := [(6, .int (zI 1)), (0, .ref h0), (1, .int (zI a)), (2, .int (zI b)), (3, .int (zI t)), (4, .int (zI bl)), (5, .int (zI sv))]) hx hb dX6_filter_57 hl (by decide) rfl (fun ls hl => ?_)
  have hl := lv_sub hl [1, 2, 3, 4, 5, 6, 0] rfl
  have hl : lv_has ls 9 [(0, .ref h0), (1, .int (zI a)), (2, .int (zI b)), (3, .int (zI t)), (4, .int (zI bl)), (5, .int (zI sv)), (6, .int (zI 1))] := hl
  refine lv_aload_n hx hb dX6_filter_59 rfl (lv_at hl 0 rfl) ?_
  refine va_get (D := D) (ci := 5) (C := RX6) (T := TX6) (N := 8) hx hb hts hi6 hown hK hP 0 rfl rfl 1 (by decide) (hts (.fieldLink RX6 13 "ButterflyYardModel" "lengths" "[I") (by decide +kernel)) (fun _ h9 => h9) rfl dX6_filter_60 ?_
  refine lv_iload_n hx hb dX6_filter_63 rfl (lv_at hl 1 rfl) ?_
  refine z_iald (cA := cI) (n := 4) (g := xl) hx hb hK hR 1 0 rfl rfl rfl (by omega) dX6_filter_64 ?_
  refine lv_aload_n hx hb dX6_filter_65 rfl (lv_at hl 0 rfl) ?_
  refine va_get (D := D) (ci := 5) (C := RX6) (T := TX6) (N := 8) hx hb hts hi6 hown hK hP 0 rfl rfl 1 (by decide) (hts (.fieldLink RX6 13 "ButterflyYardModel" "lengths" "[I") (by decide +kernel)) (fun _ h9 => h9) rfl dX6_filter_66 ?_
  refine lv_iload_n hx hb dX6_filter_69 rfl (lv_at hl 2 rfl) ?_
  refine z_iald (cA := cI) (n := 4) (g := xl) hx hb hK hR 1 0 rfl rfl rfl (by omega) dX6_filter_70 ?_
  refine z_iadd hx hb dX6_filter_71 ?_
  refine z_iconst hx hb dX6_filter_72 ?_
  refine z_isub hx hb dX6_filter_73 ?_
  refine lv_istore (lv' := [(7, .int (zI (((xl a) + (xl b)) - 1))), (0, .ref h0), (1, .int (zI a)), (2, .int (zI b)), (3, .int (zI t)), (4, .int (zI bl)), (5, .int (zI sv)), (6, .int (zI 1))]) hx hb dX6_filter_74 hl (by decide) rfl (fun ls hl => ?_)
  have hl := lv_sub hl [1, 2, 3, 4, 5, 6, 7, 0] rfl
  have hl : lv_has ls 9 [(0, .ref h0), (1, .int (zI a)), (2, .int (zI b)), (3, .int (zI t)), (4, .int (zI bl)), (5, .int (zI sv)), (6, .int (zI 1)), (7, .int (zI (((xl a) + (xl b)) - 1)))] := hl
  refine lv_aload_n hx hb dX6_filter_76 rfl (lv_at hl 0 rfl) ?_
  refine lv_iload hx hb dX6_filter_77 (lv_at hl 4 rfl) ?_
  refine z_iconst hx hb dX6_filter_79 ?_
  refine z_icmp_lt (tgt := 95) hx hb dX6_filter_80 (by decide) (by omega) (fun c_80 => absurd c_80 (by omega)) (fun c_80 => ?_)
  refine lv_iload hx hb dX6_filter_83 (lv_at hl 4 rfl) ?_
  refine z_bipush hx hb dX6_filter_85 (by decide) ?_
  refine z_icmp_gt (tgt := 95) hx hb dX6_filter_87 (by decide) (by omega) (fun c_87 => absurd c_87 (by omega)) (fun c_87 => ?_)
  refine lv_iload hx hb dX6_filter_90 (lv_at hl 6 rfl) ?_
  refine z_if_ne (tgt := 99) hx hb dX6_filter_92 (by decide) (by omega) (fun c_92 => ?_) (fun c_92 => absurd c_92 (by omega))
  refine lv_aload_n hx hb dX6_filter_99 rfl (lv_at hl 0 rfl) ?_
  refine va_get (D := D) (ci := 5) (C := RX6) (T := TX6) (N := 8) hx hb hts hi6 hown hK hP 0 rfl rfl 1 (by decide) (hts (.fieldLink RX6 13 "ButterflyYardModel" "lengths" "[I") (by decide +kernel)) (fun _ h9 => h9) rfl dX6_filter_100 ?_
  refine lv_iload_n hx hb dX6_filter_103 rfl (lv_at hl 1 rfl) ?_
  refine z_iald (cA := cI) (n := 4) (g := xl) hx hb hK hR 1 0 rfl rfl rfl (by omega) dX6_filter_104 ?_
  refine z_if_eq (tgt := 124) hx hb dX6_filter_105 (by decide) (by omega) (fun c_105 => ?_) (fun c_105 => absurd c_105 (by omega))
  refine z_iconst hx hb dX6_filter_124 ?_
  refine lv_goto (tgt := 129) hx hb dX6_filter_125 (by decide) ?_
  refine va_put (D := D) (ci := 5) (v := .int (zI 3)) (ty := .int) (C := RX6) (T := TX6) (N := 8) hx hb hts hi6 tyX6 tyX6_ok nmX6 hown hK hP hD hS 0 rfl rfl 7 (by decide) (hts (.fieldLink RX6 28 "ButterflyYardModel" "thrown" "I") (by decide +kernel)) (fun _ h9 => h9) rfl (by decide +kernel) rfl rfl (Nat.le_of_ble_eq_true rfl) dX6_filter_129 (fun H locs hP hD hS => ?_)
  have hP : va_P D vwCl [(h0, .inr (5, [.ref ae, .ref al, .ref ap, .ref az, .ref ar, .int (zI np), .ref am, .int (zI 3)]))] H := hP
  have hD : va_D A [(h0, .inr (5, [.ref ae, .ref al, .ref ap, .ref az, .ref ar, .int (zI np), .ref am, .int (zI 3)]))] := hD
  have hR := hR0.at hS
  refine lv_aload_n hx hb dX6_filter_132 rfl (lv_at hl 0 rfl) ?_
  refine va_get (D := D) (ci := 5) (C := RX6) (T := TX6) (N := 8) hx hb hts hi6 hown hK hP 0 rfl rfl 7 (by decide) (hts (.fieldLink RX6 28 "ButterflyYardModel" "thrown" "I") (by decide +kernel)) (fun _ h9 => h9) rfl dX6_filter_133 ?_
  refine z_if_eq (tgt := 141) hx hb dX6_filter_136 (by decide) (by omega) (fun c_136 => absurd c_136 (by omega)) (fun c_136 => ?_)
  refine z_iconst hx hb dX6_filter_139 ?_
  exact z_iret hx hb hr hlocks rfl () (rfl) (trivial) hP hD hS dX6_filter_140

set_option maxHeartbeats 4000000 in
set_option maxRecDepth 100000 in
theorem c_X6_filter_3b (l : Launch) (D : va_G) (cI : ClassId) (h0 : Nat) (ae : Nat) (al : Nat) (ap : Nat) (az : Nat) (ar : Nat) (am : Nat) (np : Int) (th : Int) (xe : Int → Int) (xl : Int → Int) (a : Int) (b : Int) (t : Int) (bl : Int) (sv : Int) (ha_a : -2147483648 ≤ a ∧ a ≤ 2147483647) (ha_b : -2147483648 ≤ b ∧ b ≤ 2147483647) (ha_t : -2147483648 ≤ t ∧ t ≤ 2147483647) (ha_bl : -2147483648 ≤ bl ∧ bl ≤ 2147483647) (ha_sv : -2147483648 ≤ sv ∧ sv ≤ 2147483647) (hnp_ : 0 ≤ np ∧ np ≤ 8) (hr_a : 0 ≤ a ∧ a < 4) (hr_b : 0 ≤ b ∧ b < 4) (hr_t : 0 ≤ t ∧ t < 4) (hxl_a : 0 ≤ xl a ∧ xl a ≤ 64) (hxl_b : 0 ≤ xl b ∧ xl b ≤ 64) (hxe : ∀ k, 0 ≤ k → k < 256 → -1000000 ≤ xe k ∧ xe k ≤ 1000000) (hbl : 1 ≤ bl ∧ bl ≤ 32) (hwa : ∀ k, 0 ≤ k → k < xl a → -99 ≤ eRow xe a k ∧ eRow xe a k ≤ 99) (hwb : ∀ k, 0 ≤ k → k < xl b → -99 ≤ eRow xe b k ∧ eRow xe b k ≤ 99) (hla : xl a ≠ 0) (hlb : xl b = 0) : zC l yX6_filter wsX6_filter ({ frames := 1, cells := 0, slots := 0, locals := 25 } : Room) D [(cI, .int)] [(h0, .inr (5, [.ref ae, .ref al, .ref ap, .ref az, .ref ar, .int (zI np), .ref am, .int (zI th)]))] [(ae, .inl (cI, 256, .inl (zA xe))), (al, .inl (cI, 4, .inl (zA xl)))] [.ref h0, .int (zI a), .int (zI b), .int (zI t), .int (zI bl), .int (zI sv)] (S := Unit) (fun u => True) (fun u => some (.int (zI 0))) (fun u => [(h0, .inr (5, [.ref ae, .ref al, .ref ap, .ref az, .ref ar, .int (zI np), .ref am, .int (zI 3)]))]) := by
  refine z_start (cc := cX6_filter) (maxL := 9) (ret := (some .int)) (own := RX6) (by decide) rfl rfl (Nat.le_of_ble_eq_true rfl) [(0, .ref h0), (1, .int (zI a)), (2, .int (zI b)), (3, .int (zI t)), (4, .int (zI bl)), (5, .int (zI sv))] rfl ?_
  intro pp ee s mm below meth cc A H ls hx hb hr hml hts hown hlocks hin hK hA hP hD hS hR0 hR hl
  have CF : CallFix pp mm cc cX6_filter 9 s ([.ref h0, .int (zI a), .int (zI b), .int (zI t), .int (zI bl), .int (zI sv)] : List Value).toArray wsX6_filter RX6 := ⟨hx, hb, hml, hown, hts⟩
  have hi6 : ∀ w ∈ wsX60, w ∈ wsX6_filter := by decide +kernel
  refine lv_iload_n hx hb dX6_filter_0 rfl (lv_at hl 1 rfl) ?_
  have hRc : va_P D vwCl [] H := z_nilP
  refine z_ro (ws := [(h0, .inr (5, [.ref ae, .ref al, .ref ap, .ref az, .ref ar, .int (zI np), .ref am, .int (zI th)]))]) (va_runS (As := [.int (zI a)]) (rest := []) CF (c_X6_isRow l D a (by omega) H.size) (va_cwS 1 hts gX6_filter_X6_isRow rfl rfl rfl (by decide +kernel) ⟨Nat.le_of_ble_eq_true rfl, Nat.le_of_ble_eq_true rfl⟩) (z_preS z_nilP (z_nilD (A := A)) hRc z_noX (hK.sub (tys' := []) [] rfl)) rfl rfl hl.1 rfl (lv_room (Nat.le_of_ble_eq_true rfl)) dX6_filter_1 ⟨Nat.le_of_ble_eq_true rfl, Nat.le_of_ble_eq_true rfl⟩) hP hS hA (cells' := 0) (slots' := 0) rfl rfl (fun H locs hP hS => ?_)
  have hR := hR0.at hS
  refine z_ifB_eq (tgt := 21) hx hb dX6_filter_4 (by decide) (fun c_4 => absurd c_4 (by omega)) (fun c_4 => ?_)
  refine lv_iload_n hx hb dX6_filter_7 rfl (lv_at hl 2 rfl) ?_
  have hRc : va_P D vwCl [] H := z_nilP
  refine z_ro (ws := [(h0, .inr (5, [.ref ae, .ref al, .ref ap, .ref az, .ref ar, .int (zI np), .ref am, .int (zI th)]))]) (va_runS (As := [.int (zI b)]) (rest := []) CF (c_X6_isRow l D b (by omega) H.size) (va_cwS 1 hts gX6_filter_X6_isRow rfl rfl rfl (by decide +kernel) ⟨Nat.le_of_ble_eq_true rfl, Nat.le_of_ble_eq_true rfl⟩) (z_preS z_nilP (z_nilD (A := A)) hRc z_noX (hK.sub (tys' := []) [] rfl)) rfl rfl hl.1 rfl (lv_room (Nat.le_of_ble_eq_true rfl)) dX6_filter_8 ⟨Nat.le_of_ble_eq_true rfl, Nat.le_of_ble_eq_true rfl⟩) hP hS hA (cells' := 0) (slots' := 0) rfl rfl (fun H locs hP hS => ?_)
  have hR := hR0.at hS
  refine z_ifB_eq (tgt := 21) hx hb dX6_filter_11 (by decide) (fun c_11 => absurd c_11 (by omega)) (fun c_11 => ?_)
  refine lv_iload_n hx hb dX6_filter_14 rfl (lv_at hl 3 rfl) ?_
  have hRc : va_P D vwCl [] H := z_nilP
  refine z_ro (ws := [(h0, .inr (5, [.ref ae, .ref al, .ref ap, .ref az, .ref ar, .int (zI np), .ref am, .int (zI th)]))]) (va_runS (As := [.int (zI t)]) (rest := []) CF (c_X6_isRow l D t (by omega) H.size) (va_cwS 1 hts gX6_filter_X6_isRow rfl rfl rfl (by decide +kernel) ⟨Nat.le_of_ble_eq_true rfl, Nat.le_of_ble_eq_true rfl⟩) (z_preS z_nilP (z_nilD (A := A)) hRc z_noX (hK.sub (tys' := []) [] rfl)) rfl rfl hl.1 rfl (lv_room (Nat.le_of_ble_eq_true rfl)) dX6_filter_15 ⟨Nat.le_of_ble_eq_true rfl, Nat.le_of_ble_eq_true rfl⟩) hP hS hA (cells' := 0) (slots' := 0) rfl rfl (fun H locs hP hS => ?_)
  have hR := hR0.at hS
  refine z_ifB_ne (tgt := 28) hx hb dX6_filter_18 (by decide) (fun c_18 => ?_) (fun c_18 => absurd c_18 (by omega))
  refine lv_aload_n hx hb dX6_filter_28 rfl (lv_at hl 0 rfl) ?_
  refine lv_iload_n hx hb dX6_filter_29 rfl (lv_at hl 1 rfl) ?_
  refine z_bipush hx hb dX6_filter_30 (by decide) ?_
  refine z_bipush hx hb dX6_filter_32 (by decide) ?_
  have hRc := z_subR (ws := [(h0, .inr (5, [.ref ae, .ref al, .ref ap, .ref az, .ref ar, .int (zI np), .ref am, .int (zI th)]))]) (rs := [(ae, .inl (cI, 256, .inl (zA xe))), (al, .inl (cI, 4, .inl (zA xl)))]) (rc := [(h0, .inr (5, [.ref ae, .ref al, .ref ap, .ref az, .ref ar, .int (zI np), .ref am, .int (zI th)])), (ae, .inl (cI, 256, .inl (zA xe))), (al, .inl (cI, 4, .inl (zA xl)))]) hP hR (isR := [0, 1, 2]) rfl
  refine z_ro (ws := [(h0, .inr (5, [.ref ae, .ref al, .ref ap, .ref az, .ref ar, .int (zI np), .ref am, .int (zI th)]))]) (va_runV (As := [.int (zI a), .int (zI (-99)), .int (zI 99)]) (rest := []) CF (c_X6_isWithin l D cI h0 ae al ap az ar am np th xe xl a (-99) 99 (by omega) (by omega) (by exact hxe) (by omega) (by omega) H.size) (cwV 3 hts gX6_filter_X6_isWithin rfl rfl rfl (by decide +kernel) ⟨Nat.le_of_ble_eq_true rfl, Nat.le_of_ble_eq_true rfl⟩) (z_preV (va_recv hK hP (ci := 5) (q0 := 0) rfl rfl) z_nilP (z_nilD (A := A)) hRc z_noX (hK.sub (tys' := [(cI, .int)]) [0] rfl)) rfl rfl hl.1 rfl (lv_room (Nat.le_of_ble_eq_true rfl)) dX6_filter_34 ⟨Nat.le_of_ble_eq_true rfl, Nat.le_of_ble_eq_true rfl⟩) hP hS hA (cells' := 0) (slots' := 0) rfl rfl (fun H locs hP hS => ?_)
  have hR := hR0.at hS
  refine z_ifB_eq (tgt := 56) hx hb dX6_filter_37 (by decide) (fun c_37 => absurd c_37 (by exact not_not_intro ((zAll_iff _ _).mpr (fun k h1 h2 => decide_eq_true (hwa k h1 (by omega)))))) (fun c_37 => ?_)
  refine lv_aload_n hx hb dX6_filter_40 rfl (lv_at hl 0 rfl) ?_
  refine lv_iload_n hx hb dX6_filter_41 rfl (lv_at hl 2 rfl) ?_
  refine z_bipush hx hb dX6_filter_42 (by decide) ?_
  refine z_bipush hx hb dX6_filter_44 (by decide) ?_
  have hRc := z_subR (ws := [(h0, .inr (5, [.ref ae, .ref al, .ref ap, .ref az, .ref ar, .int (zI np), .ref am, .int (zI th)]))]) (rs := [(ae, .inl (cI, 256, .inl (zA xe))), (al, .inl (cI, 4, .inl (zA xl)))]) (rc := [(h0, .inr (5, [.ref ae, .ref al, .ref ap, .ref az, .ref ar, .int (zI np), .ref am, .int (zI th)])), (ae, .inl (cI, 256, .inl (zA xe))), (al, .inl (cI, 4, .inl (zA xl)))]) hP hR (isR := [0, 1, 2]) rfl
  refine z_ro (ws := [(h0, .inr (5, [.ref ae, .ref al, .ref ap, .ref az, .ref ar, .int (zI np), .ref am, .int (zI th)]))]) (va_runV (As := [.int (zI b), .int (zI (-99)), .int (zI 99)]) (rest := []) CF (c_X6_isWithin l D cI h0 ae al ap az ar am np th xe xl b (-99) 99 (by omega) (by omega) (by exact hxe) (by omega) (by omega) H.size) (cwV 3 hts gX6_filter_X6_isWithin rfl rfl rfl (by decide +kernel) ⟨Nat.le_of_ble_eq_true rfl, Nat.le_of_ble_eq_true rfl⟩) (z_preV (va_recv hK hP (ci := 5) (q0 := 0) rfl rfl) z_nilP (z_nilD (A := A)) hRc z_noX (hK.sub (tys' := [(cI, .int)]) [0] rfl)) rfl rfl hl.1 rfl (lv_room (Nat.le_of_ble_eq_true rfl)) dX6_filter_46 ⟨Nat.le_of_ble_eq_true rfl, Nat.le_of_ble_eq_true rfl⟩) hP hS hA (cells' := 0) (slots' := 0) rfl rfl (fun H locs hP hS => ?_)
  have hR := hR0.at hS
  refine z_ifB_eq (tgt := 56) hx hb dX6_filter_49 (by decide) (fun c_49 => absurd c_49 (by exact not_not_intro ((zAll_iff _ _).mpr (fun k h1 h2 => decide_eq_true (hwb k h1 (by omega)))))) (fun c_49 => ?_)
  refine z_iconst hx hb dX6_filter_52 ?_
  refine lv_goto (tgt := 57) hx hb dX6_filter_53 (by decide) ?_
  refine lv_istore (lv' := [(6, .int (zI 1)), (0, .ref h0), (1, .int (zI a)), (2, .int (zI b)), (3, .int (zI t)), (4, .int (zI bl)), (5, .int (zI sv))]) hx hb dX6_filter_57 hl (by decide) rfl (fun ls hl => ?_)
  have hl := lv_sub hl [1, 2, 3, 4, 5, 6, 0] rfl
  have hl : lv_has ls 9 [(0, .ref h0), (1, .int (zI a)), (2, .int (zI b)), (3, .int (zI t)), (4, .int (zI bl)), (5, .int (zI sv)), (6, .int (zI 1))] := hl
  refine lv_aload_n hx hb dX6_filter_59 rfl (lv_at hl 0 rfl) ?_
  refine va_get (D := D) (ci := 5) (C := RX6) (T := TX6) (N := 8) hx hb hts hi6 hown hK hP 0 rfl rfl 1 (by decide) (hts (.fieldLink RX6 13 "ButterflyYardModel" "lengths" "[I") (by decide +kernel)) (fun _ h9 => h9) rfl dX6_filter_60 ?_
  refine lv_iload_n hx hb dX6_filter_63 rfl (lv_at hl 1 rfl) ?_
  refine z_iald (cA := cI) (n := 4) (g := xl) hx hb hK hR 1 0 rfl rfl rfl (by omega) dX6_filter_64 ?_
  refine lv_aload_n hx hb dX6_filter_65 rfl (lv_at hl 0 rfl) ?_
  refine va_get (D := D) (ci := 5) (C := RX6) (T := TX6) (N := 8) hx hb hts hi6 hown hK hP 0 rfl rfl 1 (by decide) (hts (.fieldLink RX6 13 "ButterflyYardModel" "lengths" "[I") (by decide +kernel)) (fun _ h9 => h9) rfl dX6_filter_66 ?_
  refine lv_iload_n hx hb dX6_filter_69 rfl (lv_at hl 2 rfl) ?_
  refine z_iald (cA := cI) (n := 4) (g := xl) hx hb hK hR 1 0 rfl rfl rfl (by omega) dX6_filter_70 ?_
  refine z_iadd hx hb dX6_filter_71 ?_
  refine z_iconst hx hb dX6_filter_72 ?_
  refine z_isub hx hb dX6_filter_73 ?_
  refine lv_istore (lv' := [(7, .int (zI (((xl a) + (xl b)) - 1))), (0, .ref h0), (1, .int (zI a)), (2, .int (zI b)), (3, .int (zI t)), (4, .int (zI bl)), (5, .int (zI sv)), (6, .int (zI 1))]) hx hb dX6_filter_74 hl (by decide) rfl (fun ls hl => ?_)
  have hl := lv_sub hl [1, 2, 3, 4, 5, 6, 7, 0] rfl
  have hl : lv_has ls 9 [(0, .ref h0), (1, .int (zI a)), (2, .int (zI b)), (3, .int (zI t)), (4, .int (zI bl)), (5, .int (zI sv)), (6, .int (zI 1)), (7, .int (zI (((xl a) + (xl b)) - 1)))] := hl
  refine lv_aload_n hx hb dX6_filter_76 rfl (lv_at hl 0 rfl) ?_
  refine lv_iload hx hb dX6_filter_77 (lv_at hl 4 rfl) ?_
  refine z_iconst hx hb dX6_filter_79 ?_
  refine z_icmp_lt (tgt := 95) hx hb dX6_filter_80 (by decide) (by omega) (fun c_80 => absurd c_80 (by omega)) (fun c_80 => ?_)
  refine lv_iload hx hb dX6_filter_83 (lv_at hl 4 rfl) ?_
  refine z_bipush hx hb dX6_filter_85 (by decide) ?_
  refine z_icmp_gt (tgt := 95) hx hb dX6_filter_87 (by decide) (by omega) (fun c_87 => absurd c_87 (by omega)) (fun c_87 => ?_)
  refine lv_iload hx hb dX6_filter_90 (lv_at hl 6 rfl) ?_
  refine z_if_ne (tgt := 99) hx hb dX6_filter_92 (by decide) (by omega) (fun c_92 => ?_) (fun c_92 => absurd c_92 (by omega))
  refine lv_aload_n hx hb dX6_filter_99 rfl (lv_at hl 0 rfl) ?_
  refine va_get (D := D) (ci := 5) (C := RX6) (T := TX6) (N := 8) hx hb hts hi6 hown hK hP 0 rfl rfl 1 (by decide) (hts (.fieldLink RX6 13 "ButterflyYardModel" "lengths" "[I") (by decide +kernel)) (fun _ h9 => h9) rfl dX6_filter_100 ?_
  refine lv_iload_n hx hb dX6_filter_103 rfl (lv_at hl 1 rfl) ?_
  refine z_iald (cA := cI) (n := 4) (g := xl) hx hb hK hR 1 0 rfl rfl rfl (by omega) dX6_filter_104 ?_
  refine z_if_eq (tgt := 124) hx hb dX6_filter_105 (by decide) (by omega) (fun c_105 => absurd c_105 (by omega)) (fun c_105 => ?_)
  refine lv_aload_n hx hb dX6_filter_108 rfl (lv_at hl 0 rfl) ?_
  refine va_get (D := D) (ci := 5) (C := RX6) (T := TX6) (N := 8) hx hb hts hi6 hown hK hP 0 rfl rfl 1 (by decide) (hts (.fieldLink RX6 13 "ButterflyYardModel" "lengths" "[I") (by decide +kernel)) (fun _ h9 => h9) rfl dX6_filter_109 ?_
  refine lv_iload_n hx hb dX6_filter_112 rfl (lv_at hl 2 rfl) ?_
  refine z_iald (cA := cI) (n := 4) (g := xl) hx hb hK hR 1 0 rfl rfl rfl (by omega) dX6_filter_113 ?_
  refine z_if_eq (tgt := 124) hx hb dX6_filter_114 (by decide) (by omega) (fun c_114 => ?_) (fun c_114 => absurd c_114 (by omega))
  refine z_iconst hx hb dX6_filter_124 ?_
  refine lv_goto (tgt := 129) hx hb dX6_filter_125 (by decide) ?_
  refine va_put (D := D) (ci := 5) (v := .int (zI 3)) (ty := .int) (C := RX6) (T := TX6) (N := 8) hx hb hts hi6 tyX6 tyX6_ok nmX6 hown hK hP hD hS 0 rfl rfl 7 (by decide) (hts (.fieldLink RX6 28 "ButterflyYardModel" "thrown" "I") (by decide +kernel)) (fun _ h9 => h9) rfl (by decide +kernel) rfl rfl (Nat.le_of_ble_eq_true rfl) dX6_filter_129 (fun H locs hP hD hS => ?_)
  have hP : va_P D vwCl [(h0, .inr (5, [.ref ae, .ref al, .ref ap, .ref az, .ref ar, .int (zI np), .ref am, .int (zI 3)]))] H := hP
  have hD : va_D A [(h0, .inr (5, [.ref ae, .ref al, .ref ap, .ref az, .ref ar, .int (zI np), .ref am, .int (zI 3)]))] := hD
  have hR := hR0.at hS
  refine lv_aload_n hx hb dX6_filter_132 rfl (lv_at hl 0 rfl) ?_
  refine va_get (D := D) (ci := 5) (C := RX6) (T := TX6) (N := 8) hx hb hts hi6 hown hK hP 0 rfl rfl 7 (by decide) (hts (.fieldLink RX6 28 "ButterflyYardModel" "thrown" "I") (by decide +kernel)) (fun _ h9 => h9) rfl dX6_filter_133 ?_
  refine z_if_eq (tgt := 141) hx hb dX6_filter_136 (by decide) (by omega) (fun c_136 => absurd c_136 (by omega)) (fun c_136 => ?_)
  refine z_iconst hx hb dX6_filter_139 ?_
  exact z_iret hx hb hr hlocks rfl () (rfl) (trivial) hP hD hS dX6_filter_140

set_option maxHeartbeats 4000000 in
set_option maxRecDepth 100000 in
theorem c_X6_filter_3c (l : Launch) (D : va_G) (cI : ClassId) (h0 : Nat) (ae : Nat) (al : Nat) (ap : Nat) (az : Nat) (ar : Nat) (am : Nat) (np : Int) (th : Int) (xe : Int → Int) (xl : Int → Int) (a : Int) (b : Int) (t : Int) (bl : Int) (sv : Int) (ha_a : -2147483648 ≤ a ∧ a ≤ 2147483647) (ha_b : -2147483648 ≤ b ∧ b ≤ 2147483647) (ha_t : -2147483648 ≤ t ∧ t ≤ 2147483647) (ha_bl : -2147483648 ≤ bl ∧ bl ≤ 2147483647) (ha_sv : -2147483648 ≤ sv ∧ sv ≤ 2147483647) (hnp_ : 0 ≤ np ∧ np ≤ 8) (hr_a : 0 ≤ a ∧ a < 4) (hr_b : 0 ≤ b ∧ b < 4) (hr_t : 0 ≤ t ∧ t < 4) (hxl_a : 0 ≤ xl a ∧ xl a ≤ 64) (hxl_b : 0 ≤ xl b ∧ xl b ≤ 64) (hxe : ∀ k, 0 ≤ k → k < 256 → -1000000 ≤ xe k ∧ xe k ≤ 1000000) (hbl : 1 ≤ bl ∧ bl ≤ 32) (hwa : ∀ k, 0 ≤ k → k < xl a → -99 ≤ eRow xe a k ∧ eRow xe a k ≤ 99) (hwb : ∀ k, 0 ≤ k → k < xl b → -99 ≤ eRow xe b k ∧ eRow xe b k ≤ 99) (hla : xl a ≠ 0) (hlb : xl b ≠ 0) (hlt : 65 < xl a + xl b) : zC l yX6_filter wsX6_filter ({ frames := 1, cells := 0, slots := 0, locals := 25 } : Room) D [(cI, .int)] [(h0, .inr (5, [.ref ae, .ref al, .ref ap, .ref az, .ref ar, .int (zI np), .ref am, .int (zI th)]))] [(ae, .inl (cI, 256, .inl (zA xe))), (al, .inl (cI, 4, .inl (zA xl)))] [.ref h0, .int (zI a), .int (zI b), .int (zI t), .int (zI bl), .int (zI sv)] (S := Unit) (fun u => True) (fun u => some (.int (zI 0))) (fun u => [(h0, .inr (5, [.ref ae, .ref al, .ref ap, .ref az, .ref ar, .int (zI np), .ref am, .int (zI 3)]))]) := by
  refine z_start (cc := cX6_filter) (maxL := 9) (ret := (some .int)) (own := RX6) (by decide) rfl rfl (Nat.le_of_ble_eq_true rfl) [(0, .ref h0), (1, .int (zI a)), (2, .int (zI b)), (3, .int (zI t)), (4, .int (zI bl)), (5, .int (zI sv))] rfl ?_
  intro pp ee s mm below meth cc A H ls hx hb hr hml hts hown hlocks hin hK hA hP hD hS hR0 hR hl
  have CF : CallFix pp mm cc cX6_filter 9 s ([.ref h0, .int (zI a), .int (zI b), .int (zI t), .int (zI bl), .int (zI sv)] : List Value).toArray wsX6_filter RX6 := ⟨hx, hb, hml, hown, hts⟩
  have hi6 : ∀ w ∈ wsX60, w ∈ wsX6_filter := by decide +kernel
  refine lv_iload_n hx hb dX6_filter_0 rfl (lv_at hl 1 rfl) ?_
  have hRc : va_P D vwCl [] H := z_nilP
  refine z_ro (ws := [(h0, .inr (5, [.ref ae, .ref al, .ref ap, .ref az, .ref ar, .int (zI np), .ref am, .int (zI th)]))]) (va_runS (As := [.int (zI a)]) (rest := []) CF (c_X6_isRow l D a (by omega) H.size) (va_cwS 1 hts gX6_filter_X6_isRow rfl rfl rfl (by decide +kernel) ⟨Nat.le_of_ble_eq_true rfl, Nat.le_of_ble_eq_true rfl⟩) (z_preS z_nilP (z_nilD (A := A)) hRc z_noX (hK.sub (tys' := []) [] rfl)) rfl rfl hl.1 rfl (lv_room (Nat.le_of_ble_eq_true rfl)) dX6_filter_1 ⟨Nat.le_of_ble_eq_true rfl, Nat.le_of_ble_eq_true rfl⟩) hP hS hA (cells' := 0) (slots' := 0) rfl rfl (fun H locs hP hS => ?_)
  have hR := hR0.at hS
  refine z_ifB_eq (tgt := 21) hx hb dX6_filter_4 (by decide) (fun c_4 => absurd c_4 (by omega)) (fun c_4 => ?_)
  refine lv_iload_n hx hb dX6_filter_7 rfl (lv_at hl 2 rfl) ?_
  have hRc : va_P D vwCl [] H := z_nilP
  refine z_ro (ws := [(h0, .inr (5, [.ref ae, .ref al, .ref ap, .ref az, .ref ar, .int (zI np), .ref am, .int (zI th)]))]) (va_runS (As := [.int (zI b)]) (rest := []) CF (c_X6_isRow l D b (by omega) H.size) (va_cwS 1 hts gX6_filter_X6_isRow rfl rfl rfl (by decide +kernel) ⟨Nat.le_of_ble_eq_true rfl, Nat.le_of_ble_eq_true rfl⟩) (z_preS z_nilP (z_nilD (A := A)) hRc z_noX (hK.sub (tys' := []) [] rfl)) rfl rfl hl.1 rfl (lv_room (Nat.le_of_ble_eq_true rfl)) dX6_filter_8 ⟨Nat.le_of_ble_eq_true rfl, Nat.le_of_ble_eq_true rfl⟩) hP hS hA (cells' := 0) (slots' := 0) rfl rfl (fun H locs hP hS => ?_)
  have hR := hR0.at hS
  refine z_ifB_eq (tgt := 21) hx hb dX6_filter_11 (by decide) (fun c_11 => absurd c_11 (by omega)) (fun c_11 => ?_)
  refine lv_iload_n hx hb dX6_filter_14 rfl (lv_at hl 3 rfl) ?_
  have hRc : va_P D vwCl [] H := z_nilP
  refine z_ro (ws := [(h0, .inr (5, [.ref ae, .ref al, .ref ap, .ref az, .ref ar, .int (zI np), .ref am, .int (zI th)]))]) (va_runS (As := [.int (zI t)]) (rest := []) CF (c_X6_isRow l D t (by omega) H.size) (va_cwS 1 hts gX6_filter_X6_isRow rfl rfl rfl (by decide +kernel) ⟨Nat.le_of_ble_eq_true rfl, Nat.le_of_ble_eq_true rfl⟩) (z_preS z_nilP (z_nilD (A := A)) hRc z_noX (hK.sub (tys' := []) [] rfl)) rfl rfl hl.1 rfl (lv_room (Nat.le_of_ble_eq_true rfl)) dX6_filter_15 ⟨Nat.le_of_ble_eq_true rfl, Nat.le_of_ble_eq_true rfl⟩) hP hS hA (cells' := 0) (slots' := 0) rfl rfl (fun H locs hP hS => ?_)
  have hR := hR0.at hS
  refine z_ifB_ne (tgt := 28) hx hb dX6_filter_18 (by decide) (fun c_18 => ?_) (fun c_18 => absurd c_18 (by omega))
  refine lv_aload_n hx hb dX6_filter_28 rfl (lv_at hl 0 rfl) ?_
  refine lv_iload_n hx hb dX6_filter_29 rfl (lv_at hl 1 rfl) ?_
  refine z_bipush hx hb dX6_filter_30 (by decide) ?_
  refine z_bipush hx hb dX6_filter_32 (by decide) ?_
  have hRc := z_subR (ws := [(h0, .inr (5, [.ref ae, .ref al, .ref ap, .ref az, .ref ar, .int (zI np), .ref am, .int (zI th)]))]) (rs := [(ae, .inl (cI, 256, .inl (zA xe))), (al, .inl (cI, 4, .inl (zA xl)))]) (rc := [(h0, .inr (5, [.ref ae, .ref al, .ref ap, .ref az, .ref ar, .int (zI np), .ref am, .int (zI th)])), (ae, .inl (cI, 256, .inl (zA xe))), (al, .inl (cI, 4, .inl (zA xl)))]) hP hR (isR := [0, 1, 2]) rfl
  refine z_ro (ws := [(h0, .inr (5, [.ref ae, .ref al, .ref ap, .ref az, .ref ar, .int (zI np), .ref am, .int (zI th)]))]) (va_runV (As := [.int (zI a), .int (zI (-99)), .int (zI 99)]) (rest := []) CF (c_X6_isWithin l D cI h0 ae al ap az ar am np th xe xl a (-99) 99 (by omega) (by omega) (by exact hxe) (by omega) (by omega) H.size) (cwV 3 hts gX6_filter_X6_isWithin rfl rfl rfl (by decide +kernel) ⟨Nat.le_of_ble_eq_true rfl, Nat.le_of_ble_eq_true rfl⟩) (z_preV (va_recv hK hP (ci := 5) (q0 := 0) rfl rfl) z_nilP (z_nilD (A := A)) hRc z_noX (hK.sub (tys' := [(cI, .int)]) [0] rfl)) rfl rfl hl.1 rfl (lv_room (Nat.le_of_ble_eq_true rfl)) dX6_filter_34 ⟨Nat.le_of_ble_eq_true rfl, Nat.le_of_ble_eq_true rfl⟩) hP hS hA (cells' := 0) (slots' := 0) rfl rfl (fun H locs hP hS => ?_)
  have hR := hR0.at hS
  refine z_ifB_eq (tgt := 56) hx hb dX6_filter_37 (by decide) (fun c_37 => absurd c_37 (by exact not_not_intro ((zAll_iff _ _).mpr (fun k h1 h2 => decide_eq_true (hwa k h1 (by omega)))))) (fun c_37 => ?_)
  refine lv_aload_n hx hb dX6_filter_40 rfl (lv_at hl 0 rfl) ?_
  refine lv_iload_n hx hb dX6_filter_41 rfl (lv_at hl 2 rfl) ?_
  refine z_bipush hx hb dX6_filter_42 (by decide) ?_
  refine z_bipush hx hb dX6_filter_44 (by decide) ?_
  have hRc := z_subR (ws := [(h0, .inr (5, [.ref ae, .ref al, .ref ap, .ref az, .ref ar, .int (zI np), .ref am, .int (zI th)]))]) (rs := [(ae, .inl (cI, 256, .inl (zA xe))), (al, .inl (cI, 4, .inl (zA xl)))]) (rc := [(h0, .inr (5, [.ref ae, .ref al, .ref ap, .ref az, .ref ar, .int (zI np), .ref am, .int (zI th)])), (ae, .inl (cI, 256, .inl (zA xe))), (al, .inl (cI, 4, .inl (zA xl)))]) hP hR (isR := [0, 1, 2]) rfl
  refine z_ro (ws := [(h0, .inr (5, [.ref ae, .ref al, .ref ap, .ref az, .ref ar, .int (zI np), .ref am, .int (zI th)]))]) (va_runV (As := [.int (zI b), .int (zI (-99)), .int (zI 99)]) (rest := []) CF (c_X6_isWithin l D cI h0 ae al ap az ar am np th xe xl b (-99) 99 (by omega) (by omega) (by exact hxe) (by omega) (by omega) H.size) (cwV 3 hts gX6_filter_X6_isWithin rfl rfl rfl (by decide +kernel) ⟨Nat.le_of_ble_eq_true rfl, Nat.le_of_ble_eq_true rfl⟩) (z_preV (va_recv hK hP (ci := 5) (q0 := 0) rfl rfl) z_nilP (z_nilD (A := A)) hRc z_noX (hK.sub (tys' := [(cI, .int)]) [0] rfl)) rfl rfl hl.1 rfl (lv_room (Nat.le_of_ble_eq_true rfl)) dX6_filter_46 ⟨Nat.le_of_ble_eq_true rfl, Nat.le_of_ble_eq_true rfl⟩) hP hS hA (cells' := 0) (slots' := 0) rfl rfl (fun H locs hP hS => ?_)
  have hR := hR0.at hS
  refine z_ifB_eq (tgt := 56) hx hb dX6_filter_49 (by decide) (fun c_49 => absurd c_49 (by exact not_not_intro ((zAll_iff _ _).mpr (fun k h1 h2 => decide_eq_true (hwb k h1 (by omega)))))) (fun c_49 => ?_)
  refine z_iconst hx hb dX6_filter_52 ?_
  refine lv_goto (tgt := 57) hx hb dX6_filter_53 (by decide) ?_
  refine lv_istore (lv' := [(6, .int (zI 1)), (0, .ref h0), (1, .int (zI a)), (2, .int (zI b)), (3, .int (zI t)), (4, .int (zI bl)), (5, .int (zI sv))]) hx hb dX6_filter_57 hl (by decide) rfl (fun ls hl => ?_)
  have hl := lv_sub hl [1, 2, 3, 4, 5, 6, 0] rfl
  have hl : lv_has ls 9 [(0, .ref h0), (1, .int (zI a)), (2, .int (zI b)), (3, .int (zI t)), (4, .int (zI bl)), (5, .int (zI sv)), (6, .int (zI 1))] := hl
  refine lv_aload_n hx hb dX6_filter_59 rfl (lv_at hl 0 rfl) ?_
  refine va_get (D := D) (ci := 5) (C := RX6) (T := TX6) (N := 8) hx hb hts hi6 hown hK hP 0 rfl rfl 1 (by decide) (hts (.fieldLink RX6 13 "ButterflyYardModel" "lengths" "[I") (by decide +kernel)) (fun _ h9 => h9) rfl dX6_filter_60 ?_
  refine lv_iload_n hx hb dX6_filter_63 rfl (lv_at hl 1 rfl) ?_
  refine z_iald (cA := cI) (n := 4) (g := xl) hx hb hK hR 1 0 rfl rfl rfl (by omega) dX6_filter_64 ?_
  refine lv_aload_n hx hb dX6_filter_65 rfl (lv_at hl 0 rfl) ?_
  refine va_get (D := D) (ci := 5) (C := RX6) (T := TX6) (N := 8) hx hb hts hi6 hown hK hP 0 rfl rfl 1 (by decide) (hts (.fieldLink RX6 13 "ButterflyYardModel" "lengths" "[I") (by decide +kernel)) (fun _ h9 => h9) rfl dX6_filter_66 ?_
  refine lv_iload_n hx hb dX6_filter_69 rfl (lv_at hl 2 rfl) ?_
  refine z_iald (cA := cI) (n := 4) (g := xl) hx hb hK hR 1 0 rfl rfl rfl (by omega) dX6_filter_70 ?_
  refine z_iadd hx hb dX6_filter_71 ?_
  refine z_iconst hx hb dX6_filter_72 ?_
  refine z_isub hx hb dX6_filter_73 ?_
  refine lv_istore (lv' := [(7, .int (zI (((xl a) + (xl b)) - 1))), (0, .ref h0), (1, .int (zI a)), (2, .int (zI b)), (3, .int (zI t)), (4, .int (zI bl)), (5, .int (zI sv)), (6, .int (zI 1))]) hx hb dX6_filter_74 hl (by decide) rfl (fun ls hl => ?_)
  have hl := lv_sub hl [1, 2, 3, 4, 5, 6, 7, 0] rfl
  have hl : lv_has ls 9 [(0, .ref h0), (1, .int (zI a)), (2, .int (zI b)), (3, .int (zI t)), (4, .int (zI bl)), (5, .int (zI sv)), (6, .int (zI 1)), (7, .int (zI (((xl a) + (xl b)) - 1)))] := hl
  refine lv_aload_n hx hb dX6_filter_76 rfl (lv_at hl 0 rfl) ?_
  refine lv_iload hx hb dX6_filter_77 (lv_at hl 4 rfl) ?_
  refine z_iconst hx hb dX6_filter_79 ?_
  refine z_icmp_lt (tgt := 95) hx hb dX6_filter_80 (by decide) (by omega) (fun c_80 => absurd c_80 (by omega)) (fun c_80 => ?_)
  refine lv_iload hx hb dX6_filter_83 (lv_at hl 4 rfl) ?_
  refine z_bipush hx hb dX6_filter_85 (by decide) ?_
  refine z_icmp_gt (tgt := 95) hx hb dX6_filter_87 (by decide) (by omega) (fun c_87 => absurd c_87 (by omega)) (fun c_87 => ?_)
  refine lv_iload hx hb dX6_filter_90 (lv_at hl 6 rfl) ?_
  refine z_if_ne (tgt := 99) hx hb dX6_filter_92 (by decide) (by omega) (fun c_92 => ?_) (fun c_92 => absurd c_92 (by omega))
  refine lv_aload_n hx hb dX6_filter_99 rfl (lv_at hl 0 rfl) ?_
  refine va_get (D := D) (ci := 5) (C := RX6) (T := TX6) (N := 8) hx hb hts hi6 hown hK hP 0 rfl rfl 1 (by decide) (hts (.fieldLink RX6 13 "ButterflyYardModel" "lengths" "[I") (by decide +kernel)) (fun _ h9 => h9) rfl dX6_filter_100 ?_
  refine lv_iload_n hx hb dX6_filter_103 rfl (lv_at hl 1 rfl) ?_
  refine z_iald (cA := cI) (n := 4) (g := xl) hx hb hK hR 1 0 rfl rfl rfl (by omega) dX6_filter_104 ?_
  refine z_if_eq (tgt := 124) hx hb dX6_filter_105 (by decide) (by omega) (fun c_105 => absurd c_105 (by omega)) (fun c_105 => ?_)
  refine lv_aload_n hx hb dX6_filter_108 rfl (lv_at hl 0 rfl) ?_
  refine va_get (D := D) (ci := 5) (C := RX6) (T := TX6) (N := 8) hx hb hts hi6 hown hK hP 0 rfl rfl 1 (by decide) (hts (.fieldLink RX6 13 "ButterflyYardModel" "lengths" "[I") (by decide +kernel)) (fun _ h9 => h9) rfl dX6_filter_109 ?_
  refine lv_iload_n hx hb dX6_filter_112 rfl (lv_at hl 2 rfl) ?_
  refine z_iald (cA := cI) (n := 4) (g := xl) hx hb hK hR 1 0 rfl rfl rfl (by omega) dX6_filter_113 ?_
  refine z_if_eq (tgt := 124) hx hb dX6_filter_114 (by decide) (by omega) (fun c_114 => absurd c_114 (by omega)) (fun c_114 => ?_)
  refine lv_iload hx hb dX6_filter_117 (lv_at hl 7 rfl) ?_
  refine z_bipush hx hb dX6_filter_119 (by decide) ?_
  refine z_icmp_le (tgt := 128) hx hb dX6_filter_121 (by decide) (by omega) (fun c_121 => absurd c_121 (by omega)) (fun c_121 => ?_)
  refine z_iconst hx hb dX6_filter_124 ?_
  refine lv_goto (tgt := 129) hx hb dX6_filter_125 (by decide) ?_
  refine va_put (D := D) (ci := 5) (v := .int (zI 3)) (ty := .int) (C := RX6) (T := TX6) (N := 8) hx hb hts hi6 tyX6 tyX6_ok nmX6 hown hK hP hD hS 0 rfl rfl 7 (by decide) (hts (.fieldLink RX6 28 "ButterflyYardModel" "thrown" "I") (by decide +kernel)) (fun _ h9 => h9) rfl (by decide +kernel) rfl rfl (Nat.le_of_ble_eq_true rfl) dX6_filter_129 (fun H locs hP hD hS => ?_)
  have hP : va_P D vwCl [(h0, .inr (5, [.ref ae, .ref al, .ref ap, .ref az, .ref ar, .int (zI np), .ref am, .int (zI 3)]))] H := hP
  have hD : va_D A [(h0, .inr (5, [.ref ae, .ref al, .ref ap, .ref az, .ref ar, .int (zI np), .ref am, .int (zI 3)]))] := hD
  have hR := hR0.at hS
  refine lv_aload_n hx hb dX6_filter_132 rfl (lv_at hl 0 rfl) ?_
  refine va_get (D := D) (ci := 5) (C := RX6) (T := TX6) (N := 8) hx hb hts hi6 hown hK hP 0 rfl rfl 7 (by decide) (hts (.fieldLink RX6 28 "ButterflyYardModel" "thrown" "I") (by decide +kernel)) (fun _ h9 => h9) rfl dX6_filter_133 ?_
  refine z_if_eq (tgt := 141) hx hb dX6_filter_136 (by decide) (by omega) (fun c_136 => absurd c_136 (by omega)) (fun c_136 => ?_)
  refine z_iconst hx hb dX6_filter_139 ?_
  exact z_iret hx hb hr hlocks rfl () (rfl) (trivial) hP hD hS dX6_filter_140

set_option maxHeartbeats 4000000 in
set_option maxRecDepth 100000 in
theorem c_X6_filter_ok (l : Launch) (D : va_G) (cI : ClassId) (h0 : Nat) (ae : Nat) (al : Nat) (ap : Nat) (az : Nat) (ar : Nat) (am : Nat) (np : Int) (th : Int) (xe : Int → Int) (xl : Int → Int) (xm : Int → Int) (a : Int) (b : Int) (t : Int) (bl : Int) (sv : Int) (ha_a : -2147483648 ≤ a ∧ a ≤ 2147483647) (ha_b : -2147483648 ≤ b ∧ b ≤ 2147483647) (ha_t : -2147483648 ≤ t ∧ t ≤ 2147483647) (ha_bl : -2147483648 ≤ bl ∧ bl ≤ 2147483647) (ha_sv : -2147483648 ≤ sv ∧ sv ≤ 2147483647) (hnp_ : 0 ≤ np ∧ np ≤ 8) (hr_a : 0 ≤ a ∧ a < 4) (hr_b : 0 ≤ b ∧ b < 4) (hr_t : 0 ≤ t ∧ t < 4) (hxl_a : 0 ≤ xl a ∧ xl a ≤ 64) (hxl_b : 0 ≤ xl b ∧ xl b ≤ 64) (hxe : ∀ k, 0 ≤ k → k < 256 → -1000000 ≤ xe k ∧ xe k ≤ 1000000) (hbl : 1 ≤ bl ∧ bl ≤ 32) (hwa : ∀ k, 0 ≤ k → k < xl a → -99 ≤ eRow xe a k ∧ eRow xe a k ≤ 99) (hwb : ∀ k, 0 ≤ k → k < xl b → -99 ≤ eRow xe b k ∧ eRow xe b k ≤ 99) (hla : xl a ≠ 0) (hlb : xl b ≠ 0) (hlt : xl a + xl b ≤ 65) : zC l yX6_filter wsX6_filter ({ frames := 1, cells := 0, slots := 0, locals := 26 } : Room) D [(cI, .int)] [(h0, .inr (5, [.ref ae, .ref al, .ref ap, .ref az, .ref ar, .int (zI np), .ref am, .int (zI th)])), (ae, .inl (cI, 256, .inl (zA xe))), (al, .inl (cI, 4, .inl (zA xl))), (am, .inl (cI, 64, .inl (zA xm)))] [] [.ref h0, .int (zI a), .int (zI b), .int (zI t), .int (zI bl), .int (zI sv)] (S := (Int → Int) × (Int → Int)) (fun (xe2, xm2) => (∀ k, 0 ≤ k → k < xl a + xl b - 1 → xe2 (64 * t + k) = lin (eRow xe a) (xl a) (eRow xe b) (xl b)  k) ∧ (∀ x, x < 64 * t ∨ 64 * t + (xl a + xl b - 1) ≤ x → xe2 x = xe x)) (fun (xe2, xm2) => some (.int (zI (xl a + xl b - 1)))) (fun (xe2, xm2) => [(h0, .inr (5, [.ref ae, .ref al, .ref ap, .ref az, .ref ar, .int (zI np), .ref am, .int (zI 0)])), (ae, .inl (cI, 256, .inl (zA xe2))), (al, .inl (cI, 4, .inl (zA (zU xl t (xl a + xl b - 1))))), (am, .inl (cI, 64, .inl (zA xm2)))]) := by
  refine z_start (cc := cX6_filter) (maxL := 9) (ret := (some .int)) (own := RX6) (by decide) rfl rfl (Nat.le_of_ble_eq_true rfl) [(0, .ref h0), (1, .int (zI a)), (2, .int (zI b)), (3, .int (zI t)), (4, .int (zI bl)), (5, .int (zI sv))] rfl ?_
  intro pp ee s mm below meth cc A H ls hx hb hr hml hts hown hlocks hin hK hA hP hD hS hR0 hR hl
  have CF : CallFix pp mm cc cX6_filter 9 s ([.ref h0, .int (zI a), .int (zI b), .int (zI t), .int (zI bl), .int (zI sv)] : List Value).toArray wsX6_filter RX6 := ⟨hx, hb, hml, hown, hts⟩
  have hi6 : ∀ w ∈ wsX60, w ∈ wsX6_filter := by decide +kernel
  refine lv_iload_n hx hb dX6_filter_0 rfl (lv_at hl 1 rfl) ?_
  have hRc : va_P D vwCl [] H := z_nilP
  refine z_ro (ws := [(h0, .inr (5, [.ref ae, .ref al, .ref ap, .ref az, .ref ar, .int (zI np), .ref am, .int (zI th)])), (ae, .inl (cI, 256, .inl (zA xe))), (al, .inl (cI, 4, .inl (zA xl))), (am, .inl (cI, 64, .inl (zA xm)))]) (va_runS (As := [.int (zI a)]) (rest := []) CF (c_X6_isRow l D a (by omega) H.size) (va_cwS 1 hts gX6_filter_X6_isRow rfl rfl rfl (by decide +kernel) ⟨Nat.le_of_ble_eq_true rfl, Nat.le_of_ble_eq_true rfl⟩) (z_preS z_nilP (z_nilD (A := A)) hRc z_noX (hK.sub (tys' := []) [] rfl)) rfl rfl hl.1 rfl (lv_room (Nat.le_of_ble_eq_true rfl)) dX6_filter_1 ⟨Nat.le_of_ble_eq_true rfl, Nat.le_of_ble_eq_true rfl⟩) hP hS hA (cells' := 0) (slots' := 0) rfl rfl (fun H locs hP hS => ?_)
  refine z_ifB_eq (tgt := 21) hx hb dX6_filter_4 (by decide) (fun c_4 => absurd c_4 (by omega)) (fun c_4 => ?_)
  refine lv_iload_n hx hb dX6_filter_7 rfl (lv_at hl 2 rfl) ?_
  have hRc : va_P D vwCl [] H := z_nilP
  refine z_ro (ws := [(h0, .inr (5, [.ref ae, .ref al, .ref ap, .ref az, .ref ar, .int (zI np), .ref am, .int (zI th)])), (ae, .inl (cI, 256, .inl (zA xe))), (al, .inl (cI, 4, .inl (zA xl))), (am, .inl (cI, 64, .inl (zA xm)))]) (va_runS (As := [.int (zI b)]) (rest := []) CF (c_X6_isRow l D b (by omega) H.size) (va_cwS 1 hts gX6_filter_X6_isRow rfl rfl rfl (by decide +kernel) ⟨Nat.le_of_ble_eq_true rfl, Nat.le_of_ble_eq_true rfl⟩) (z_preS z_nilP (z_nilD (A := A)) hRc z_noX (hK.sub (tys' := []) [] rfl)) rfl rfl hl.1 rfl (lv_room (Nat.le_of_ble_eq_true rfl)) dX6_filter_8 ⟨Nat.le_of_ble_eq_true rfl, Nat.le_of_ble_eq_true rfl⟩) hP hS hA (cells' := 0) (slots' := 0) rfl rfl (fun H locs hP hS => ?_)
  refine z_ifB_eq (tgt := 21) hx hb dX6_filter_11 (by decide) (fun c_11 => absurd c_11 (by omega)) (fun c_11 => ?_)
  refine lv_iload_n hx hb dX6_filter_14 rfl (lv_at hl 3 rfl) ?_
  have hRc : va_P D vwCl [] H := z_nilP
  refine z_ro (ws := [(h0, .inr (5, [.ref ae, .ref al, .ref ap, .ref az, .ref ar, .int (zI np), .ref am, .int (zI th)])), (ae, .inl (cI, 256, .inl (zA xe))), (al, .inl (cI, 4, .inl (zA xl))), (am, .inl (cI, 64, .inl (zA xm)))]) (va_runS (As := [.int (zI t)]) (rest := []) CF (c_X6_isRow l D t (by omega) H.size) (va_cwS 1 hts gX6_filter_X6_isRow rfl rfl rfl (by decide +kernel) ⟨Nat.le_of_ble_eq_true rfl, Nat.le_of_ble_eq_true rfl⟩) (z_preS z_nilP (z_nilD (A := A)) hRc z_noX (hK.sub (tys' := []) [] rfl)) rfl rfl hl.1 rfl (lv_room (Nat.le_of_ble_eq_true rfl)) dX6_filter_15 ⟨Nat.le_of_ble_eq_true rfl, Nat.le_of_ble_eq_true rfl⟩) hP hS hA (cells' := 0) (slots' := 0) rfl rfl (fun H locs hP hS => ?_)
  refine z_ifB_ne (tgt := 28) hx hb dX6_filter_18 (by decide) (fun c_18 => ?_) (fun c_18 => absurd c_18 (by omega))
  refine lv_aload_n hx hb dX6_filter_28 rfl (lv_at hl 0 rfl) ?_
  refine lv_iload_n hx hb dX6_filter_29 rfl (lv_at hl 1 rfl) ?_
  refine z_bipush hx hb dX6_filter_30 (by decide) ?_
  refine z_bipush hx hb dX6_filter_32 (by decide) ?_
  have hRc := z_subR (ws := [(h0, .inr (5, [.ref ae, .ref al, .ref ap, .ref az, .ref ar, .int (zI np), .ref am, .int (zI th)])), (ae, .inl (cI, 256, .inl (zA xe))), (al, .inl (cI, 4, .inl (zA xl))), (am, .inl (cI, 64, .inl (zA xm)))]) (rs := []) (rc := [(h0, .inr (5, [.ref ae, .ref al, .ref ap, .ref az, .ref ar, .int (zI np), .ref am, .int (zI th)])), (ae, .inl (cI, 256, .inl (zA xe))), (al, .inl (cI, 4, .inl (zA xl)))]) hP z_nilP (isR := [0, 1, 2]) rfl
  refine z_ro (ws := [(h0, .inr (5, [.ref ae, .ref al, .ref ap, .ref az, .ref ar, .int (zI np), .ref am, .int (zI th)])), (ae, .inl (cI, 256, .inl (zA xe))), (al, .inl (cI, 4, .inl (zA xl))), (am, .inl (cI, 64, .inl (zA xm)))]) (va_runV (As := [.int (zI a), .int (zI (-99)), .int (zI 99)]) (rest := []) CF (c_X6_isWithin l D cI h0 ae al ap az ar am np th xe xl a (-99) 99 (by omega) (by omega) (by exact hxe) (by omega) (by omega) H.size) (cwV 3 hts gX6_filter_X6_isWithin rfl rfl rfl (by decide +kernel) ⟨Nat.le_of_ble_eq_true rfl, Nat.le_of_ble_eq_true rfl⟩) (z_preV (va_recv hK hP (ci := 5) (q0 := 0) rfl rfl) z_nilP (z_nilD (A := A)) hRc z_noX (hK.sub (tys' := [(cI, .int)]) [0] rfl)) rfl rfl hl.1 rfl (lv_room (Nat.le_of_ble_eq_true rfl)) dX6_filter_34 ⟨Nat.le_of_ble_eq_true rfl, Nat.le_of_ble_eq_true rfl⟩) hP hS hA (cells' := 0) (slots' := 0) rfl rfl (fun H locs hP hS => ?_)
  refine z_ifB_eq (tgt := 56) hx hb dX6_filter_37 (by decide) (fun c_37 => absurd c_37 (by exact not_not_intro ((zAll_iff _ _).mpr (fun k h1 h2 => decide_eq_true (hwa k h1 (by omega)))))) (fun c_37 => ?_)
  refine lv_aload_n hx hb dX6_filter_40 rfl (lv_at hl 0 rfl) ?_
  refine lv_iload_n hx hb dX6_filter_41 rfl (lv_at hl 2 rfl) ?_
  refine z_bipush hx hb dX6_filter_42 (by decide) ?_
  refine z_bipush hx hb dX6_filter_44 (by decide) ?_
  have hRc := z_subR (ws := [(h0, .inr (5, [.ref ae, .ref al, .ref ap, .ref az, .ref ar, .int (zI np), .ref am, .int (zI th)])), (ae, .inl (cI, 256, .inl (zA xe))), (al, .inl (cI, 4, .inl (zA xl))), (am, .inl (cI, 64, .inl (zA xm)))]) (rs := []) (rc := [(h0, .inr (5, [.ref ae, .ref al, .ref ap, .ref az, .ref ar, .int (zI np), .ref am, .int (zI th)])), (ae, .inl (cI, 256, .inl (zA xe))), (al, .inl (cI, 4, .inl (zA xl)))]) hP z_nilP (isR := [0, 1, 2]) rfl
  refine z_ro (ws := [(h0, .inr (5, [.ref ae, .ref al, .ref ap, .ref az, .ref ar, .int (zI np), .ref am, .int (zI th)])), (ae, .inl (cI, 256, .inl (zA xe))), (al, .inl (cI, 4, .inl (zA xl))), (am, .inl (cI, 64, .inl (zA xm)))]) (va_runV (As := [.int (zI b), .int (zI (-99)), .int (zI 99)]) (rest := []) CF (c_X6_isWithin l D cI h0 ae al ap az ar am np th xe xl b (-99) 99 (by omega) (by omega) (by exact hxe) (by omega) (by omega) H.size) (cwV 3 hts gX6_filter_X6_isWithin rfl rfl rfl (by decide +kernel) ⟨Nat.le_of_ble_eq_true rfl, Nat.le_of_ble_eq_true rfl⟩) (z_preV (va_recv hK hP (ci := 5) (q0 := 0) rfl rfl) z_nilP (z_nilD (A := A)) hRc z_noX (hK.sub (tys' := [(cI, .int)]) [0] rfl)) rfl rfl hl.1 rfl (lv_room (Nat.le_of_ble_eq_true rfl)) dX6_filter_46 ⟨Nat.le_of_ble_eq_true rfl, Nat.le_of_ble_eq_true rfl⟩) hP hS hA (cells' := 0) (slots' := 0) rfl rfl (fun H locs hP hS => ?_)
  refine z_ifB_eq (tgt := 56) hx hb dX6_filter_49 (by decide) (fun c_49 => absurd c_49 (by exact not_not_intro ((zAll_iff _ _).mpr (fun k h1 h2 => decide_eq_true (hwb k h1 (by omega)))))) (fun c_49 => ?_)
  refine z_iconst hx hb dX6_filter_52 ?_
  refine lv_goto (tgt := 57) hx hb dX6_filter_53 (by decide) ?_
  refine lv_istore (lv' := [(6, .int (zI 1)), (0, .ref h0), (1, .int (zI a)), (2, .int (zI b)), (3, .int (zI t)), (4, .int (zI bl)), (5, .int (zI sv))]) hx hb dX6_filter_57 hl (by decide) rfl (fun ls hl => ?_)
  have hl := lv_sub hl [1, 2, 3, 4, 5, 6, 0] rfl
  have hl : lv_has ls 9 [(0, .ref h0), (1, .int (zI a)), (2, .int (zI b)), (3, .int (zI t)), (4, .int (zI bl)), (5, .int (zI sv)), (6, .int (zI 1))] := hl
  refine lv_aload_n hx hb dX6_filter_59 rfl (lv_at hl 0 rfl) ?_
  refine va_get (D := D) (ci := 5) (C := RX6) (T := TX6) (N := 8) hx hb hts hi6 hown hK hP 0 rfl rfl 1 (by decide) (hts (.fieldLink RX6 13 "ButterflyYardModel" "lengths" "[I") (by decide +kernel)) (fun _ h9 => h9) rfl dX6_filter_60 ?_
  refine lv_iload_n hx hb dX6_filter_63 rfl (lv_at hl 1 rfl) ?_
  refine z_iald (cA := cI) (n := 4) (g := xl) hx hb hK hP 2 0 rfl rfl rfl (by omega) dX6_filter_64 ?_
  refine lv_aload_n hx hb dX6_filter_65 rfl (lv_at hl 0 rfl) ?_
  refine va_get (D := D) (ci := 5) (C := RX6) (T := TX6) (N := 8) hx hb hts hi6 hown hK hP 0 rfl rfl 1 (by decide) (hts (.fieldLink RX6 13 "ButterflyYardModel" "lengths" "[I") (by decide +kernel)) (fun _ h9 => h9) rfl dX6_filter_66 ?_
  refine lv_iload_n hx hb dX6_filter_69 rfl (lv_at hl 2 rfl) ?_
  refine z_iald (cA := cI) (n := 4) (g := xl) hx hb hK hP 2 0 rfl rfl rfl (by omega) dX6_filter_70 ?_
  refine z_iadd hx hb dX6_filter_71 ?_
  refine z_iconst hx hb dX6_filter_72 ?_
  refine z_isub hx hb dX6_filter_73 ?_
  refine lv_istore (lv' := [(7, .int (zI (((xl a) + (xl b)) - 1))), (0, .ref h0), (1, .int (zI a)), (2, .int (zI b)), (3, .int (zI t)), (4, .int (zI bl)), (5, .int (zI sv)), (6, .int (zI 1))]) hx hb dX6_filter_74 hl (by decide) rfl (fun ls hl => ?_)
  have hl := lv_sub hl [1, 2, 3, 4, 5, 6, 7, 0] rfl
  have hl : lv_has ls 9 [(0, .ref h0), (1, .int (zI a)), (2, .int (zI b)), (3, .int (zI t)), (4, .int (zI bl)), (5, .int (zI sv)), (6, .int (zI 1)), (7, .int (zI (((xl a) + (xl b)) - 1)))] := hl
  refine lv_aload_n hx hb dX6_filter_76 rfl (lv_at hl 0 rfl) ?_
  refine lv_iload hx hb dX6_filter_77 (lv_at hl 4 rfl) ?_
  refine z_iconst hx hb dX6_filter_79 ?_
  refine z_icmp_lt (tgt := 95) hx hb dX6_filter_80 (by decide) (by omega) (fun c_80 => absurd c_80 (by omega)) (fun c_80 => ?_)
  refine lv_iload hx hb dX6_filter_83 (lv_at hl 4 rfl) ?_
  refine z_bipush hx hb dX6_filter_85 (by decide) ?_
  refine z_icmp_gt (tgt := 95) hx hb dX6_filter_87 (by decide) (by omega) (fun c_87 => absurd c_87 (by omega)) (fun c_87 => ?_)
  refine lv_iload hx hb dX6_filter_90 (lv_at hl 6 rfl) ?_
  refine z_if_ne (tgt := 99) hx hb dX6_filter_92 (by decide) (by omega) (fun c_92 => ?_) (fun c_92 => absurd c_92 (by omega))
  refine lv_aload_n hx hb dX6_filter_99 rfl (lv_at hl 0 rfl) ?_
  refine va_get (D := D) (ci := 5) (C := RX6) (T := TX6) (N := 8) hx hb hts hi6 hown hK hP 0 rfl rfl 1 (by decide) (hts (.fieldLink RX6 13 "ButterflyYardModel" "lengths" "[I") (by decide +kernel)) (fun _ h9 => h9) rfl dX6_filter_100 ?_
  refine lv_iload_n hx hb dX6_filter_103 rfl (lv_at hl 1 rfl) ?_
  refine z_iald (cA := cI) (n := 4) (g := xl) hx hb hK hP 2 0 rfl rfl rfl (by omega) dX6_filter_104 ?_
  refine z_if_eq (tgt := 124) hx hb dX6_filter_105 (by decide) (by omega) (fun c_105 => absurd c_105 (by omega)) (fun c_105 => ?_)
  refine lv_aload_n hx hb dX6_filter_108 rfl (lv_at hl 0 rfl) ?_
  refine va_get (D := D) (ci := 5) (C := RX6) (T := TX6) (N := 8) hx hb hts hi6 hown hK hP 0 rfl rfl 1 (by decide) (hts (.fieldLink RX6 13 "ButterflyYardModel" "lengths" "[I") (by decide +kernel)) (fun _ h9 => h9) rfl dX6_filter_109 ?_
  refine lv_iload_n hx hb dX6_filter_112 rfl (lv_at hl 2 rfl) ?_
  refine z_iald (cA := cI) (n := 4) (g := xl) hx hb hK hP 2 0 rfl rfl rfl (by omega) dX6_filter_113 ?_
  refine z_if_eq (tgt := 124) hx hb dX6_filter_114 (by decide) (by omega) (fun c_114 => absurd c_114 (by omega)) (fun c_114 => ?_)
  refine lv_iload hx hb dX6_filter_117 (lv_at hl 7 rfl) ?_
  refine z_bipush hx hb dX6_filter_119 (by decide) ?_
  refine z_icmp_le (tgt := 128) hx hb dX6_filter_121 (by decide) (by omega) (fun c_121 => ?_) (fun c_121 => absurd c_121 (by omega))
  refine z_iconst hx hb dX6_filter_128 ?_
  refine va_put (D := D) (ci := 5) (v := .int (zI 0)) (ty := .int) (C := RX6) (T := TX6) (N := 8) hx hb hts hi6 tyX6 tyX6_ok nmX6 hown hK hP hD hS 0 rfl rfl 7 (by decide) (hts (.fieldLink RX6 28 "ButterflyYardModel" "thrown" "I") (by decide +kernel)) (fun _ h9 => h9) rfl (by decide +kernel) rfl rfl (Nat.le_of_ble_eq_true rfl) dX6_filter_129 (fun H locs hP hD hS => ?_)
  have hP : va_P D vwCl [(h0, .inr (5, [.ref ae, .ref al, .ref ap, .ref az, .ref ar, .int (zI np), .ref am, .int (zI 0)])), (ae, .inl (cI, 256, .inl (zA xe))), (al, .inl (cI, 4, .inl (zA xl))), (am, .inl (cI, 64, .inl (zA xm)))] H := hP
  have hD : va_D A [(h0, .inr (5, [.ref ae, .ref al, .ref ap, .ref az, .ref ar, .int (zI np), .ref am, .int (zI 0)])), (ae, .inl (cI, 256, .inl (zA xe))), (al, .inl (cI, 4, .inl (zA xl))), (am, .inl (cI, 64, .inl (zA xm)))] := hD
  refine lv_aload_n hx hb dX6_filter_132 rfl (lv_at hl 0 rfl) ?_
  refine va_get (D := D) (ci := 5) (C := RX6) (T := TX6) (N := 8) hx hb hts hi6 hown hK hP 0 rfl rfl 7 (by decide) (hts (.fieldLink RX6 28 "ButterflyYardModel" "thrown" "I") (by decide +kernel)) (fun _ h9 => h9) rfl dX6_filter_133 ?_
  refine z_if_eq (tgt := 141) hx hb dX6_filter_136 (by decide) (by omega) (fun c_136 => ?_) (fun c_136 => absurd c_136 (by omega))
  refine z_iconst hx hb dX6_filter_141 ?_
  refine lv_istore (lv' := [(8, .int (zI 0)), (0, .ref h0), (1, .int (zI a)), (2, .int (zI b)), (3, .int (zI t)), (4, .int (zI bl)), (5, .int (zI sv)), (6, .int (zI 1)), (7, .int (zI (((xl a) + (xl b)) - 1)))]) hx hb dX6_filter_142 hl (by decide) rfl (fun ls hl => ?_)
  have hl := lv_sub hl [1, 2, 3, 4, 5, 6, 7, 8, 0] rfl
  have hl : lv_has ls 9 [(0, .ref h0), (1, .int (zI a)), (2, .int (zI b)), (3, .int (zI t)), (4, .int (zI bl)), (5, .int (zI sv)), (6, .int (zI 1)), (7, .int (zI (((xl a) + (xl b)) - 1))), (8, .int (zI 0))] := hl
  refine z_loop (σ := Int × (Int → Int)) (fun (k, xm2) => (xl a + xl b - 1 - k).toNat) (fun (k, xm2) H locs ls => (0 ≤ k ∧ k ≤ xl a + xl b - 1) ∧ (∀ y, 0 ≤ y → y < k → xm2 y = lin (eRow xe a) (xl a) (eRow xe b) (xl b)  y) ∧ va_P D vwCl [(h0, .inr (5, [.ref ae, .ref al, .ref ap, .ref az, .ref ar, .int (zI np), .ref am, .int (zI 0)])), (ae, .inl (cI, 256, .inl (zA xe))), (al, .inl (cI, 4, .inl (zA xl))), (am, .inl (cI, 64, .inl (zA xm2)))] H ∧ va_D A [(h0, .inr (5, [.ref ae, .ref al, .ref ap, .ref az, .ref ar, .int (zI np), .ref am, .int (zI 0)])), (ae, .inl (cI, 256, .inl (zA xe))), (al, .inl (cI, 4, .inl (zA xl))), (am, .inl (cI, 64, .inl (zA xm2)))] ∧ va_S A s.heap H locs ∧ lv_has ls 9 [(0, .ref h0), (1, .int (zI a)), (2, .int (zI b)), (3, .int (zI t)), (4, .int (zI bl)), (5, .int (zI sv)), (6, .int (zI 1)), (7, .int (zI (((xl a) + (xl b)) - 1))), (8, .int (zI k))]) (0, xm) ⟨(by omega), (fun k h1 h2 => absurd h2 (by omega)), hP, hD, hS, hl⟩ ?_
  intro ⟨k, xm2⟩ H locs ls hI ih_144
  obtain ⟨hk_, hm_, hP, hD, hS, hl⟩ := hI
  refine lv_iload hx hb dX6_filter_144 (lv_at hl 8 rfl) ?_
  refine lv_iload hx hb dX6_filter_146 (lv_at hl 7 rfl) ?_
  refine z_icmp_ge (tgt := 172) hx hb dX6_filter_148 (by decide) (by omega) (fun c_148 => ?_) (fun c_148 => ?_)
  · refine lv_aload_n hx hb dX6_filter_172 rfl (lv_at hl 0 rfl) ?_
    refine lv_iload_n hx hb dX6_filter_173 rfl (lv_at hl 3 rfl) ?_
    refine lv_iload hx hb dX6_filter_174 (lv_at hl 7 rfl) ?_
    have hRc := z_subR (ws := [(h0, .inr (5, [.ref ae, .ref al, .ref ap, .ref az, .ref ar, .int (zI np), .ref am, .int (zI 0)])), (ae, .inl (cI, 256, .inl (zA xe))), (al, .inl (cI, 4, .inl (zA xl))), (am, .inl (cI, 64, .inl (zA xm2)))]) (rs := []) (rc := [(h0, .inr (5, [.ref ae, .ref al, .ref ap, .ref az, .ref ar, .int (zI np), .ref am, .int (zI 0)])), (am, .inl (cI, 64, .inl (zA xm2)))]) hP z_nilP (isR := [0, 3]) rfl
    have hPc := hP.sub (ws' := [(ae, .inl (cI, 256, .inl (zA xe))), (al, .inl (cI, 4, .inl (zA xl)))]) [1, 2] rfl
    have hDc := hD.sub (ws' := [(ae, .inl (cI, 256, .inl (zA xe))), (al, .inl (cI, 4, .inl (zA xl)))]) [1, 2] (by decide) rfl
    refine z_mu (ws := [(h0, .inr (5, [.ref ae, .ref al, .ref ap, .ref az, .ref ar, .int (zI np), .ref am, .int (zI 0)])), (ae, .inl (cI, 256, .inl (zA xe))), (al, .inl (cI, 4, .inl (zA xl))), (am, .inl (cI, 64, .inl (zA xm2)))]) (wc := [(ae, .inl (cI, 256, .inl (zA xe))), (al, .inl (cI, 4, .inl (zA xl)))]) (wr := [(h0, .inr (5, [.ref ae, .ref al, .ref ap, .ref az, .ref ar, .int (zI np), .ref am, .int (zI 0)])), (am, .inl (cI, 64, .inl (zA xm2)))]) (va_runV (As := [.int (zI t), .int (zI (((xl a) + (xl b)) - 1))]) (rest := []) CF (c_X6_put l D cI h0 ae al ap az ar am np 0 xe xl xm2 t (((xl a) + (xl b)) - 1) (by omega) (by omega) H.size) (cwV 2 hts gX6_filter_X6_put rfl rfl rfl (by decide +kernel) ⟨Nat.le_of_ble_eq_true rfl, Nat.le_of_ble_eq_true rfl⟩) (z_preV (va_recv hK hP (ci := 5) (q0 := 0) rfl rfl) hPc hDc hRc (z_dis (ws := [(h0, .inr (5, [.ref ae, .ref al, .ref ap, .ref az, .ref ar, .int (zI np), .ref am, .int (zI 0)])), (ae, .inl (cI, 256, .inl (zA xe))), (al, .inl (cI, 4, .inl (zA xl))), (am, .inl (cI, 64, .inl (zA xm2)))]) (rs := []) (wc := [(ae, .inl (cI, 256, .inl (zA xe))), (al, .inl (cI, 4, .inl (zA xl)))]) (rc := [(h0, .inr (5, [.ref ae, .ref al, .ref ap, .ref az, .ref ar, .int (zI np), .ref am, .int (zI 0)])), (am, .inl (cI, 64, .inl (zA xm2)))]) hD hR0 (isC := [1, 2]) (isR := [0, 3]) rfl rfl (by decide)) (hK.sub (tys' := [(cI, .int)]) [0] rfl)) rfl rfl hl.1 rfl (lv_room (Nat.le_of_ble_eq_true rfl)) dX6_filter_176 ⟨Nat.le_of_ble_eq_true rfl, Nat.le_of_ble_eq_true rfl⟩) hP hD hS hA [1, 2] [0, 3] rfl rfl (by decide) (by decide) (cells' := 0) (slots' := 0) rfl rfl (fun u_176 H locs hp_176 hP hD hS => ?_)
    revert hp_176 hP hD
    generalize u_176 = xe2_176
    intro hp_176 hP hD
    have hp_176 : (∀ k, 0 ≤ k → k < (((xl a) + (xl b)) - 1) → xe2_176 (64 * t + k) = xm2 k) ∧ (∀ x, x < 64 * t ∨ 64 * t + (((xl a) + (xl b)) - 1) ≤ x → xe2_176 x = xe x) := hp_176
    have hP := hP.sub (ws' := [(h0, .inr (5, [.ref ae, .ref al, .ref ap, .ref az, .ref ar, .int (zI np), .ref am, .int (zI 0)])), (ae, .inl (cI, 256, .inl (zA xe2_176))), (al, .inl (cI, 4, .inl (zA (zU xl t (((xl a) + (xl b)) - 1))))), (am, .inl (cI, 64, .inl (zA xm2)))]) [0, 2, 3, 1] rfl
    have hD := hD.sub (ws' := [(h0, .inr (5, [.ref ae, .ref al, .ref ap, .ref az, .ref ar, .int (zI np), .ref am, .int (zI 0)])), (ae, .inl (cI, 256, .inl (zA xe2_176))), (al, .inl (cI, 4, .inl (zA (zU xl t (((xl a) + (xl b)) - 1))))), (am, .inl (cI, 64, .inl (zA xm2)))]) [0, 2, 3, 1] (by decide) rfl
    exact z_iret hx hb hr hlocks rfl (xe2_176, xm2) (rfl) (by exact ⟨fun y h1 h2 => by show xe2_176 (64 * t + y) = _; rw [hp_176.1 y h1 h2]; exact hm_ y h1 (by omega), hp_176.2⟩) hP hD hS dX6_filter_179
  · refine lv_aload_n hx hb dX6_filter_151 rfl (lv_at hl 0 rfl) ?_
    refine va_get (D := D) (ci := 5) (C := RX6) (T := TX6) (N := 8) hx hb hts hi6 hown hK hP 0 rfl rfl 6 (by decide) (hts (.fieldLink RX6 25 "ButterflyYardModel" "made" "[I") (by decide +kernel)) (fun _ h9 => h9) rfl dX6_filter_152 ?_
    refine lv_iload hx hb dX6_filter_155 (lv_at hl 8 rfl) ?_
    refine lv_aload_n hx hb dX6_filter_157 rfl (lv_at hl 0 rfl) ?_
    refine lv_iload_n hx hb dX6_filter_158 rfl (lv_at hl 1 rfl) ?_
    refine lv_iload_n hx hb dX6_filter_159 rfl (lv_at hl 2 rfl) ?_
    refine lv_iload hx hb dX6_filter_160 (lv_at hl 8 rfl) ?_
    have hRc := z_subR (ws := [(h0, .inr (5, [.ref ae, .ref al, .ref ap, .ref az, .ref ar, .int (zI np), .ref am, .int (zI 0)])), (ae, .inl (cI, 256, .inl (zA xe))), (al, .inl (cI, 4, .inl (zA xl))), (am, .inl (cI, 64, .inl (zA xm2)))]) (rs := []) (rc := [(h0, .inr (5, [.ref ae, .ref al, .ref ap, .ref az, .ref ar, .int (zI np), .ref am, .int (zI 0)])), (ae, .inl (cI, 256, .inl (zA xe))), (al, .inl (cI, 4, .inl (zA xl)))]) hP z_nilP (isR := [0, 1, 2]) rfl
    refine z_ro (ws := [(h0, .inr (5, [.ref ae, .ref al, .ref ap, .ref az, .ref ar, .int (zI np), .ref am, .int (zI 0)])), (ae, .inl (cI, 256, .inl (zA xe))), (al, .inl (cI, 4, .inl (zA xl))), (am, .inl (cI, 64, .inl (zA xm2)))]) (va_runV (As := [.int (zI a), .int (zI b), .int (zI k)]) (rest := [.int (zI k), .ref am]) CF (c_X6_lineAt l D cI h0 ae al ap az ar am np 0 xe xl a b k (by omega) (by omega) (by omega) (by omega) (by exact hxe) (by omega) H.size) (cwV 3 hts gX6_filter_X6_lineAt rfl rfl rfl (by decide +kernel) ⟨Nat.le_of_ble_eq_true rfl, Nat.le_of_ble_eq_true rfl⟩) (z_preV (va_recv hK hP (ci := 5) (q0 := 0) rfl rfl) z_nilP (z_nilD (A := A)) hRc z_noX (hK.sub (tys' := [(cI, .int)]) [0] rfl)) rfl rfl hl.1 rfl (lv_room (Nat.le_of_ble_eq_true rfl)) dX6_filter_162 ⟨Nat.le_of_ble_eq_true rfl, Nat.le_of_ble_eq_true rfl⟩) hP hS hA (cells' := 0) (slots' := 0) rfl rfl (fun H locs hP hS => ?_)
    refine z_iast (cA := cI) (n := 64) (g := xm2) (i := k) (v := lin (eRow xe a) (xl a) (eRow xe b) (xl b) k) hx hb hK hP hD hS 3 0 rfl rfl rfl (by omega) dX6_filter_165 (fun H locs hP hD hS => ?_)
    have hP : va_P D vwCl [(h0, .inr (5, [.ref ae, .ref al, .ref ap, .ref az, .ref ar, .int (zI np), .ref am, .int (zI 0)])), (ae, .inl (cI, 256, .inl (zA xe))), (al, .inl (cI, 4, .inl (zA xl))), (am, .inl (cI, 64, .inl (zA (zU xm2 k (lin (eRow xe a) (xl a) (eRow xe b) (xl b) k)))))] H := hP
    have hD : va_D A [(h0, .inr (5, [.ref ae, .ref al, .ref ap, .ref az, .ref ar, .int (zI np), .ref am, .int (zI 0)])), (ae, .inl (cI, 256, .inl (zA xe))), (al, .inl (cI, 4, .inl (zA xl))), (am, .inl (cI, 64, .inl (zA (zU xm2 k (lin (eRow xe a) (xl a) (eRow xe b) (xl b) k)))))] := hD
    refine lv_iinc (v := zI (k + 1)) (lv' := [(8, .int (zI (k + 1))), (0, .ref h0), (1, .int (zI a)), (2, .int (zI b)), (3, .int (zI t)), (4, .int (zI bl)), (5, .int (zI sv)), (6, .int (zI 1)), (7, .int (zI (((xl a) + (xl b)) - 1)))]) hx hb dX6_filter_166 hl (k := 8) rfl (zI_add _ _) (by decide) rfl (fun ls hl => ?_)
    have hl := lv_sub hl [1, 2, 3, 4, 5, 6, 7, 8, 0] rfl
    have hl : lv_has ls 9 [(0, .ref h0), (1, .int (zI a)), (2, .int (zI b)), (3, .int (zI t)), (4, .int (zI bl)), (5, .int (zI sv)), (6, .int (zI 1)), (7, .int (zI (((xl a) + (xl b)) - 1))), (8, .int (zI (k + 1)))] := hl
    refine lv_goto (tgt := 144) hx hb dX6_filter_169 (by decide) ?_
    exact ih_144 (k + 1, zU xm2 k (lin (eRow xe a) (xl a) (eRow xe b) (xl b) k)) _ _ _ ⟨(by omega), (by exact zU_fill hm_ rfl), hP, hD, hS, hl⟩ (by show (xl a + xl b - 1 - (k + 1)).toNat < (xl a + xl b - 1 - k).toNat; omega)

set_option maxHeartbeats 4000000 in
set_option maxRecDepth 100000 in
theorem c_X6_multiply_1a (l : Launch) (D : va_G) (cI : ClassId) (h0 : Nat) (ae : Nat) (al : Nat) (ap : Nat) (az : Nat) (ar : Nat) (am : Nat) (np : Int) (th : Int) (a : Int) (b : Int) (t : Int) (ha_a : -2147483648 ≤ a ∧ a ≤ 2147483647) (ha_b : -2147483648 ≤ b ∧ b ≤ 2147483647) (ha_t : -2147483648 ≤ t ∧ t ≤ 2147483647) (hnp_ : 0 ≤ np ∧ np ≤ 8) (hb_a : ¬ (0 ≤ a ∧ a < 4)) : zC l yX6_multiply wsX6_multiply ({ frames := 1, cells := 0, slots := 0, locals := 20 } : Room) D [(cI, .int)] [(h0, .inr (5, [.ref ae, .ref al, .ref ap, .ref az, .ref ar, .int (zI np), .ref am, .int (zI th)]))] [] [.ref h0, .int (zI a), .int (zI b), .int (zI t)] (S := Unit) (fun u => True) (fun u => some (.int (zI 0))) (fun u => [(h0, .inr (5, [.ref ae, .ref al, .ref ap, .ref az, .ref ar, .int (zI np), .ref am, .int (zI 1)]))]) := by
  refine z_start (cc := cX6_multiply) (maxL := 7) (ret := (some .int)) (own := RX6) (by decide) rfl rfl (Nat.le_of_ble_eq_true rfl) [(0, .ref h0), (1, .int (zI a)), (2, .int (zI b)), (3, .int (zI t))] rfl ?_
  intro pp ee s mm below meth cc A H ls hx hb hr hml hts hown hlocks hin hK hA hP hD hS hR0 hR hl
  have CF : CallFix pp mm cc cX6_multiply 7 s ([.ref h0, .int (zI a), .int (zI b), .int (zI t)] : List Value).toArray wsX6_multiply RX6 := ⟨hx, hb, hml, hown, hts⟩
  have hi6 : ∀ w ∈ wsX60, w ∈ wsX6_multiply := by decide +kernel
  refine lv_iload_n hx hb dX6_multiply_0 rfl (lv_at hl 1 rfl) ?_
  have hRc : va_P D vwCl [] H := z_nilP
  refine z_ro (ws := [(h0, .inr (5, [.ref ae, .ref al, .ref ap, .ref az, .ref ar, .int (zI np), .ref am, .int (zI th)]))]) (va_runS (As := [.int (zI a)]) (rest := []) CF (c_X6_isRow l D a (by omega) H.size) (va_cwS 1 hts gX6_multiply_X6_isRow rfl rfl rfl (by decide +kernel) ⟨Nat.le_of_ble_eq_true rfl, Nat.le_of_ble_eq_true rfl⟩) (z_preS z_nilP (z_nilD (A := A)) hRc z_noX (hK.sub (tys' := []) [] rfl)) rfl rfl hl.1 rfl (lv_room (Nat.le_of_ble_eq_true rfl)) dX6_multiply_1 ⟨Nat.le_of_ble_eq_true rfl, Nat.le_of_ble_eq_true rfl⟩) hP hS hA (cells' := 0) (slots' := 0) rfl rfl (fun H locs hP hS => ?_)
  refine z_ifB_eq (tgt := 21) hx hb dX6_multiply_4 (by decide) (fun c_4 => ?_) (fun c_4 => absurd c_4 (by omega))
  refine lv_aload_n hx hb dX6_multiply_21 rfl (lv_at hl 0 rfl) ?_
  refine z_iconst hx hb dX6_multiply_22 ?_
  refine va_put (D := D) (ci := 5) (v := .int (zI 1)) (ty := .int) (C := RX6) (T := TX6) (N := 8) hx hb hts hi6 tyX6 tyX6_ok nmX6 hown hK hP hD hS 0 rfl rfl 7 (by decide) (hts (.fieldLink RX6 28 "ButterflyYardModel" "thrown" "I") (by decide +kernel)) (fun _ h9 => h9) rfl (by decide +kernel) rfl rfl (Nat.le_of_ble_eq_true rfl) dX6_multiply_23 (fun H locs hP hD hS => ?_)
  have hP : va_P D vwCl [(h0, .inr (5, [.ref ae, .ref al, .ref ap, .ref az, .ref ar, .int (zI np), .ref am, .int (zI 1)]))] H := hP
  have hD : va_D A [(h0, .inr (5, [.ref ae, .ref al, .ref ap, .ref az, .ref ar, .int (zI np), .ref am, .int (zI 1)]))] := hD
  refine z_iconst hx hb dX6_multiply_26 ?_
  exact z_iret hx hb hr hlocks rfl () (rfl) (trivial) hP hD hS dX6_multiply_27

set_option maxHeartbeats 4000000 in
set_option maxRecDepth 100000 in
theorem c_X6_multiply_1b (l : Launch) (D : va_G) (cI : ClassId) (h0 : Nat) (ae : Nat) (al : Nat) (ap : Nat) (az : Nat) (ar : Nat) (am : Nat) (np : Int) (th : Int) (a : Int) (b : Int) (t : Int) (ha_a : -2147483648 ≤ a ∧ a ≤ 2147483647) (ha_b : -2147483648 ≤ b ∧ b ≤ 2147483647) (ha_t : -2147483648 ≤ t ∧ t ≤ 2147483647) (hnp_ : 0 ≤ np ∧ np ≤ 8) (hr_a : 0 ≤ a ∧ a < 4) (hb_b : ¬ (0 ≤ b ∧ b < 4)) : zC l yX6_multiply wsX6_multiply ({ frames := 1, cells := 0, slots := 0, locals := 20 } : Room) D [(cI, .int)] [(h0, .inr (5, [.ref ae, .ref al, .ref ap, .ref az, .ref ar, .int (zI np), .ref am, .int (zI th)]))] [] [.ref h0, .int (zI a), .int (zI b), .int (zI t)] (S := Unit) (fun u => True) (fun u => some (.int (zI 0))) (fun u => [(h0, .inr (5, [.ref ae, .ref al, .ref ap, .ref az, .ref ar, .int (zI np), .ref am, .int (zI 1)]))]) := by
  refine z_start (cc := cX6_multiply) (maxL := 7) (ret := (some .int)) (own := RX6) (by decide) rfl rfl (Nat.le_of_ble_eq_true rfl) [(0, .ref h0), (1, .int (zI a)), (2, .int (zI b)), (3, .int (zI t))] rfl ?_
  intro pp ee s mm below meth cc A H ls hx hb hr hml hts hown hlocks hin hK hA hP hD hS hR0 hR hl
  have CF : CallFix pp mm cc cX6_multiply 7 s ([.ref h0, .int (zI a), .int (zI b), .int (zI t)] : List Value).toArray wsX6_multiply RX6 := ⟨hx, hb, hml, hown, hts⟩
  have hi6 : ∀ w ∈ wsX60, w ∈ wsX6_multiply := by decide +kernel
  refine lv_iload_n hx hb dX6_multiply_0 rfl (lv_at hl 1 rfl) ?_
  have hRc : va_P D vwCl [] H := z_nilP
  refine z_ro (ws := [(h0, .inr (5, [.ref ae, .ref al, .ref ap, .ref az, .ref ar, .int (zI np), .ref am, .int (zI th)]))]) (va_runS (As := [.int (zI a)]) (rest := []) CF (c_X6_isRow l D a (by omega) H.size) (va_cwS 1 hts gX6_multiply_X6_isRow rfl rfl rfl (by decide +kernel) ⟨Nat.le_of_ble_eq_true rfl, Nat.le_of_ble_eq_true rfl⟩) (z_preS z_nilP (z_nilD (A := A)) hRc z_noX (hK.sub (tys' := []) [] rfl)) rfl rfl hl.1 rfl (lv_room (Nat.le_of_ble_eq_true rfl)) dX6_multiply_1 ⟨Nat.le_of_ble_eq_true rfl, Nat.le_of_ble_eq_true rfl⟩) hP hS hA (cells' := 0) (slots' := 0) rfl rfl (fun H locs hP hS => ?_)
  refine z_ifB_eq (tgt := 21) hx hb dX6_multiply_4 (by decide) (fun c_4 => absurd c_4 (by omega)) (fun c_4 => ?_)
  refine lv_iload_n hx hb dX6_multiply_7 rfl (lv_at hl 2 rfl) ?_
  have hRc : va_P D vwCl [] H := z_nilP
  refine z_ro (ws := [(h0, .inr (5, [.ref ae, .ref al, .ref ap, .ref az, .ref ar, .int (zI np), .ref am, .int (zI th)]))]) (va_runS (As := [.int (zI b)]) (rest := []) CF (c_X6_isRow l D b (by omega) H.size) (va_cwS 1 hts gX6_multiply_X6_isRow rfl rfl rfl (by decide +kernel) ⟨Nat.le_of_ble_eq_true rfl, Nat.le_of_ble_eq_true rfl⟩) (z_preS z_nilP (z_nilD (A := A)) hRc z_noX (hK.sub (tys' := []) [] rfl)) rfl rfl hl.1 rfl (lv_room (Nat.le_of_ble_eq_true rfl)) dX6_multiply_8 ⟨Nat.le_of_ble_eq_true rfl, Nat.le_of_ble_eq_true rfl⟩) hP hS hA (cells' := 0) (slots' := 0) rfl rfl (fun H locs hP hS => ?_)
  refine z_ifB_eq (tgt := 21) hx hb dX6_multiply_11 (by decide) (fun c_11 => ?_) (fun c_11 => absurd c_11 (by omega))
  refine lv_aload_n hx hb dX6_multiply_21 rfl (lv_at hl 0 rfl) ?_
  refine z_iconst hx hb dX6_multiply_22 ?_
  refine va_put (D := D) (ci := 5) (v := .int (zI 1)) (ty := .int) (C := RX6) (T := TX6) (N := 8) hx hb hts hi6 tyX6 tyX6_ok nmX6 hown hK hP hD hS 0 rfl rfl 7 (by decide) (hts (.fieldLink RX6 28 "ButterflyYardModel" "thrown" "I") (by decide +kernel)) (fun _ h9 => h9) rfl (by decide +kernel) rfl rfl (Nat.le_of_ble_eq_true rfl) dX6_multiply_23 (fun H locs hP hD hS => ?_)
  have hP : va_P D vwCl [(h0, .inr (5, [.ref ae, .ref al, .ref ap, .ref az, .ref ar, .int (zI np), .ref am, .int (zI 1)]))] H := hP
  have hD : va_D A [(h0, .inr (5, [.ref ae, .ref al, .ref ap, .ref az, .ref ar, .int (zI np), .ref am, .int (zI 1)]))] := hD
  refine z_iconst hx hb dX6_multiply_26 ?_
  exact z_iret hx hb hr hlocks rfl () (rfl) (trivial) hP hD hS dX6_multiply_27

set_option maxHeartbeats 4000000 in
set_option maxRecDepth 100000 in
theorem c_X6_multiply_1c (l : Launch) (D : va_G) (cI : ClassId) (h0 : Nat) (ae : Nat) (al : Nat) (ap : Nat) (az : Nat) (ar : Nat) (am : Nat) (np : Int) (th : Int) (a : Int) (b : Int) (t : Int) (ha_a : -2147483648 ≤ a ∧ a ≤ 2147483647) (ha_b : -2147483648 ≤ b ∧ b ≤ 2147483647) (ha_t : -2147483648 ≤ t ∧ t ≤ 2147483647) (hnp_ : 0 ≤ np ∧ np ≤ 8) (hr_a : 0 ≤ a ∧ a < 4) (hr_b : 0 ≤ b ∧ b < 4) (hb_t : ¬ (0 ≤ t ∧ t < 4)) : zC l yX6_multiply wsX6_multiply ({ frames := 1, cells := 0, slots := 0, locals := 20 } : Room) D [(cI, .int)] [(h0, .inr (5, [.ref ae, .ref al, .ref ap, .ref az, .ref ar, .int (zI np), .ref am, .int (zI th)]))] [] [.ref h0, .int (zI a), .int (zI b), .int (zI t)] (S := Unit) (fun u => True) (fun u => some (.int (zI 0))) (fun u => [(h0, .inr (5, [.ref ae, .ref al, .ref ap, .ref az, .ref ar, .int (zI np), .ref am, .int (zI 1)]))]) := by
  refine z_start (cc := cX6_multiply) (maxL := 7) (ret := (some .int)) (own := RX6) (by decide) rfl rfl (Nat.le_of_ble_eq_true rfl) [(0, .ref h0), (1, .int (zI a)), (2, .int (zI b)), (3, .int (zI t))] rfl ?_
  intro pp ee s mm below meth cc A H ls hx hb hr hml hts hown hlocks hin hK hA hP hD hS hR0 hR hl
  have CF : CallFix pp mm cc cX6_multiply 7 s ([.ref h0, .int (zI a), .int (zI b), .int (zI t)] : List Value).toArray wsX6_multiply RX6 := ⟨hx, hb, hml, hown, hts⟩
  have hi6 : ∀ w ∈ wsX60, w ∈ wsX6_multiply := by decide +kernel
  refine lv_iload_n hx hb dX6_multiply_0 rfl (lv_at hl 1 rfl) ?_
  have hRc : va_P D vwCl [] H := z_nilP
  refine z_ro (ws := [(h0, .inr (5, [.ref ae, .ref al, .ref ap, .ref az, .ref ar, .int (zI np), .ref am, .int (zI th)]))]) (va_runS (As := [.int (zI a)]) (rest := []) CF (c_X6_isRow l D a (by omega) H.size) (va_cwS 1 hts gX6_multiply_X6_isRow rfl rfl rfl (by decide +kernel) ⟨Nat.le_of_ble_eq_true rfl, Nat.le_of_ble_eq_true rfl⟩) (z_preS z_nilP (z_nilD (A := A)) hRc z_noX (hK.sub (tys' := []) [] rfl)) rfl rfl hl.1 rfl (lv_room (Nat.le_of_ble_eq_true rfl)) dX6_multiply_1 ⟨Nat.le_of_ble_eq_true rfl, Nat.le_of_ble_eq_true rfl⟩) hP hS hA (cells' := 0) (slots' := 0) rfl rfl (fun H locs hP hS => ?_)
  refine z_ifB_eq (tgt := 21) hx hb dX6_multiply_4 (by decide) (fun c_4 => absurd c_4 (by omega)) (fun c_4 => ?_)
  refine lv_iload_n hx hb dX6_multiply_7 rfl (lv_at hl 2 rfl) ?_
  have hRc : va_P D vwCl [] H := z_nilP
  refine z_ro (ws := [(h0, .inr (5, [.ref ae, .ref al, .ref ap, .ref az, .ref ar, .int (zI np), .ref am, .int (zI th)]))]) (va_runS (As := [.int (zI b)]) (rest := []) CF (c_X6_isRow l D b (by omega) H.size) (va_cwS 1 hts gX6_multiply_X6_isRow rfl rfl rfl (by decide +kernel) ⟨Nat.le_of_ble_eq_true rfl, Nat.le_of_ble_eq_true rfl⟩) (z_preS z_nilP (z_nilD (A := A)) hRc z_noX (hK.sub (tys' := []) [] rfl)) rfl rfl hl.1 rfl (lv_room (Nat.le_of_ble_eq_true rfl)) dX6_multiply_8 ⟨Nat.le_of_ble_eq_true rfl, Nat.le_of_ble_eq_true rfl⟩) hP hS hA (cells' := 0) (slots' := 0) rfl rfl (fun H locs hP hS => ?_)
  refine z_ifB_eq (tgt := 21) hx hb dX6_multiply_11 (by decide) (fun c_11 => absurd c_11 (by omega)) (fun c_11 => ?_)
  refine lv_iload_n hx hb dX6_multiply_14 rfl (lv_at hl 3 rfl) ?_
  have hRc : va_P D vwCl [] H := z_nilP
  refine z_ro (ws := [(h0, .inr (5, [.ref ae, .ref al, .ref ap, .ref az, .ref ar, .int (zI np), .ref am, .int (zI th)]))]) (va_runS (As := [.int (zI t)]) (rest := []) CF (c_X6_isRow l D t (by omega) H.size) (va_cwS 1 hts gX6_multiply_X6_isRow rfl rfl rfl (by decide +kernel) ⟨Nat.le_of_ble_eq_true rfl, Nat.le_of_ble_eq_true rfl⟩) (z_preS z_nilP (z_nilD (A := A)) hRc z_noX (hK.sub (tys' := []) [] rfl)) rfl rfl hl.1 rfl (lv_room (Nat.le_of_ble_eq_true rfl)) dX6_multiply_15 ⟨Nat.le_of_ble_eq_true rfl, Nat.le_of_ble_eq_true rfl⟩) hP hS hA (cells' := 0) (slots' := 0) rfl rfl (fun H locs hP hS => ?_)
  refine z_ifB_ne (tgt := 28) hx hb dX6_multiply_18 (by decide) (fun c_18 => absurd c_18 (by omega)) (fun c_18 => ?_)
  refine lv_aload_n hx hb dX6_multiply_21 rfl (lv_at hl 0 rfl) ?_
  refine z_iconst hx hb dX6_multiply_22 ?_
  refine va_put (D := D) (ci := 5) (v := .int (zI 1)) (ty := .int) (C := RX6) (T := TX6) (N := 8) hx hb hts hi6 tyX6 tyX6_ok nmX6 hown hK hP hD hS 0 rfl rfl 7 (by decide) (hts (.fieldLink RX6 28 "ButterflyYardModel" "thrown" "I") (by decide +kernel)) (fun _ h9 => h9) rfl (by decide +kernel) rfl rfl (Nat.le_of_ble_eq_true rfl) dX6_multiply_23 (fun H locs hP hD hS => ?_)
  have hP : va_P D vwCl [(h0, .inr (5, [.ref ae, .ref al, .ref ap, .ref az, .ref ar, .int (zI np), .ref am, .int (zI 1)]))] H := hP
  have hD : va_D A [(h0, .inr (5, [.ref ae, .ref al, .ref ap, .ref az, .ref ar, .int (zI np), .ref am, .int (zI 1)]))] := hD
  refine z_iconst hx hb dX6_multiply_26 ?_
  exact z_iret hx hb hr hlocks rfl () (rfl) (trivial) hP hD hS dX6_multiply_27

set_option maxHeartbeats 4000000 in
set_option maxRecDepth 100000 in
theorem c_X6_multiply_2a (l : Launch) (D : va_G) (cI : ClassId) (h0 : Nat) (ae : Nat) (al : Nat) (ap : Nat) (az : Nat) (ar : Nat) (am : Nat) (np : Int) (th : Int) (xe : Int → Int) (xl : Int → Int) (a : Int) (b : Int) (t : Int) (ha_a : -2147483648 ≤ a ∧ a ≤ 2147483647) (ha_b : -2147483648 ≤ b ∧ b ≤ 2147483647) (ha_t : -2147483648 ≤ t ∧ t ≤ 2147483647) (hnp_ : 0 ≤ np ∧ np ≤ 8) (hr_a : 0 ≤ a ∧ a < 4) (hr_b : 0 ≤ b ∧ b < 4) (hr_t : 0 ≤ t ∧ t < 4) (hxl_a : 0 ≤ xl a ∧ xl a ≤ 64) (hxl_b : 0 ≤ xl b ∧ xl b ≤ 64) (hxe : ∀ k, 0 ≤ k → k < 256 → -1000000 ≤ xe k ∧ xe k ≤ 1000000) (hwa : ¬ (∀ k, 0 ≤ k → k < xl a → 0 ≤ eRow xe a k ∧ eRow xe a k ≤ 9)) : zC l yX6_multiply wsX6_multiply ({ frames := 1, cells := 0, slots := 0, locals := 25 } : Room) D [(cI, .int)] [(h0, .inr (5, [.ref ae, .ref al, .ref ap, .ref az, .ref ar, .int (zI np), .ref am, .int (zI th)]))] [(ae, .inl (cI, 256, .inl (zA xe))), (al, .inl (cI, 4, .inl (zA xl)))] [.ref h0, .int (zI a), .int (zI b), .int (zI t)] (S := Unit) (fun u => True) (fun u => some (.int (zI 0))) (fun u => [(h0, .inr (5, [.ref ae, .ref al, .ref ap, .ref az, .ref ar, .int (zI np), .ref am, .int (zI 2)]))]) := by
  refine z_start (cc := cX6_multiply) (maxL := 7) (ret := (some .int)) (own := RX6) (by decide) rfl rfl (Nat.le_of_ble_eq_true rfl) [(0, .ref h0), (1, .int (zI a)), (2, .int (zI b)), (3, .int (zI t))] rfl ?_
  intro pp ee s mm below meth cc A H ls hx hb hr hml hts hown hlocks hin hK hA hP hD hS hR0 hR hl
  have CF : CallFix pp mm cc cX6_multiply 7 s ([.ref h0, .int (zI a), .int (zI b), .int (zI t)] : List Value).toArray wsX6_multiply RX6 := ⟨hx, hb, hml, hown, hts⟩
  have hi6 : ∀ w ∈ wsX60, w ∈ wsX6_multiply := by decide +kernel
  refine lv_iload_n hx hb dX6_multiply_0 rfl (lv_at hl 1 rfl) ?_
  have hRc : va_P D vwCl [] H := z_nilP
  refine z_ro (ws := [(h0, .inr (5, [.ref ae, .ref al, .ref ap, .ref az, .ref ar, .int (zI np), .ref am, .int (zI th)]))]) (va_runS (As := [.int (zI a)]) (rest := []) CF (c_X6_isRow l D a (by omega) H.size) (va_cwS 1 hts gX6_multiply_X6_isRow rfl rfl rfl (by decide +kernel) ⟨Nat.le_of_ble_eq_true rfl, Nat.le_of_ble_eq_true rfl⟩) (z_preS z_nilP (z_nilD (A := A)) hRc z_noX (hK.sub (tys' := []) [] rfl)) rfl rfl hl.1 rfl (lv_room (Nat.le_of_ble_eq_true rfl)) dX6_multiply_1 ⟨Nat.le_of_ble_eq_true rfl, Nat.le_of_ble_eq_true rfl⟩) hP hS hA (cells' := 0) (slots' := 0) rfl rfl (fun H locs hP hS => ?_)
  have hR := hR0.at hS
  refine z_ifB_eq (tgt := 21) hx hb dX6_multiply_4 (by decide) (fun c_4 => absurd c_4 (by omega)) (fun c_4 => ?_)
  refine lv_iload_n hx hb dX6_multiply_7 rfl (lv_at hl 2 rfl) ?_
  have hRc : va_P D vwCl [] H := z_nilP
  refine z_ro (ws := [(h0, .inr (5, [.ref ae, .ref al, .ref ap, .ref az, .ref ar, .int (zI np), .ref am, .int (zI th)]))]) (va_runS (As := [.int (zI b)]) (rest := []) CF (c_X6_isRow l D b (by omega) H.size) (va_cwS 1 hts gX6_multiply_X6_isRow rfl rfl rfl (by decide +kernel) ⟨Nat.le_of_ble_eq_true rfl, Nat.le_of_ble_eq_true rfl⟩) (z_preS z_nilP (z_nilD (A := A)) hRc z_noX (hK.sub (tys' := []) [] rfl)) rfl rfl hl.1 rfl (lv_room (Nat.le_of_ble_eq_true rfl)) dX6_multiply_8 ⟨Nat.le_of_ble_eq_true rfl, Nat.le_of_ble_eq_true rfl⟩) hP hS hA (cells' := 0) (slots' := 0) rfl rfl (fun H locs hP hS => ?_)
  have hR := hR0.at hS
  refine z_ifB_eq (tgt := 21) hx hb dX6_multiply_11 (by decide) (fun c_11 => absurd c_11 (by omega)) (fun c_11 => ?_)
  refine lv_iload_n hx hb dX6_multiply_14 rfl (lv_at hl 3 rfl) ?_
  have hRc : va_P D vwCl [] H := z_nilP
  refine z_ro (ws := [(h0, .inr (5, [.ref ae, .ref al, .ref ap, .ref az, .ref ar, .int (zI np), .ref am, .int (zI th)]))]) (va_runS (As := [.int (zI t)]) (rest := []) CF (c_X6_isRow l D t (by omega) H.size) (va_cwS 1 hts gX6_multiply_X6_isRow rfl rfl rfl (by decide +kernel) ⟨Nat.le_of_ble_eq_true rfl, Nat.le_of_ble_eq_true rfl⟩) (z_preS z_nilP (z_nilD (A := A)) hRc z_noX (hK.sub (tys' := []) [] rfl)) rfl rfl hl.1 rfl (lv_room (Nat.le_of_ble_eq_true rfl)) dX6_multiply_15 ⟨Nat.le_of_ble_eq_true rfl, Nat.le_of_ble_eq_true rfl⟩) hP hS hA (cells' := 0) (slots' := 0) rfl rfl (fun H locs hP hS => ?_)
  have hR := hR0.at hS
  refine z_ifB_ne (tgt := 28) hx hb dX6_multiply_18 (by decide) (fun c_18 => ?_) (fun c_18 => absurd c_18 (by omega))
  refine lv_aload_n hx hb dX6_multiply_28 rfl (lv_at hl 0 rfl) ?_
  refine va_get (D := D) (ci := 5) (C := RX6) (T := TX6) (N := 8) hx hb hts hi6 hown hK hP 0 rfl rfl 1 (by decide) (hts (.fieldLink RX6 13 "ButterflyYardModel" "lengths" "[I") (by decide +kernel)) (fun _ h9 => h9) rfl dX6_multiply_29 ?_
  refine lv_iload_n hx hb dX6_multiply_32 rfl (lv_at hl 1 rfl) ?_
  refine z_iald (cA := cI) (n := 4) (g := xl) hx hb hK hR 1 0 rfl rfl rfl (by omega) dX6_multiply_33 ?_
  refine lv_aload_n hx hb dX6_multiply_34 rfl (lv_at hl 0 rfl) ?_
  refine va_get (D := D) (ci := 5) (C := RX6) (T := TX6) (N := 8) hx hb hts hi6 hown hK hP 0 rfl rfl 1 (by decide) (hts (.fieldLink RX6 13 "ButterflyYardModel" "lengths" "[I") (by decide +kernel)) (fun _ h9 => h9) rfl dX6_multiply_35 ?_
  refine lv_iload_n hx hb dX6_multiply_38 rfl (lv_at hl 2 rfl) ?_
  refine z_iald (cA := cI) (n := 4) (g := xl) hx hb hK hR 1 0 rfl rfl rfl (by omega) dX6_multiply_39 ?_
  refine z_iadd hx hb dX6_multiply_40 ?_
  refine lv_istore (lv' := [(4, .int (zI ((xl a) + (xl b)))), (0, .ref h0), (1, .int (zI a)), (2, .int (zI b)), (3, .int (zI t))]) hx hb dX6_multiply_41 hl (by decide) rfl (fun ls hl => ?_)
  have hl := lv_sub hl [1, 2, 3, 4, 0] rfl
  have hl : lv_has ls 7 [(0, .ref h0), (1, .int (zI a)), (2, .int (zI b)), (3, .int (zI t)), (4, .int (zI ((xl a) + (xl b))))] := hl
  refine lv_aload_n hx hb dX6_multiply_43 rfl (lv_at hl 0 rfl) ?_
  refine lv_aload_n hx hb dX6_multiply_44 rfl (lv_at hl 0 rfl) ?_
  refine lv_iload_n hx hb dX6_multiply_45 rfl (lv_at hl 1 rfl) ?_
  refine z_iconst hx hb dX6_multiply_46 ?_
  refine z_bipush hx hb dX6_multiply_47 (by decide) ?_
  have hRc := z_subR (ws := [(h0, .inr (5, [.ref ae, .ref al, .ref ap, .ref az, .ref ar, .int (zI np), .ref am, .int (zI th)]))]) (rs := [(ae, .inl (cI, 256, .inl (zA xe))), (al, .inl (cI, 4, .inl (zA xl)))]) (rc := [(h0, .inr (5, [.ref ae, .ref al, .ref ap, .ref az, .ref ar, .int (zI np), .ref am, .int (zI th)])), (ae, .inl (cI, 256, .inl (zA xe))), (al, .inl (cI, 4, .inl (zA xl)))]) hP hR (isR := [0, 1, 2]) rfl
  refine z_ro (ws := [(h0, .inr (5, [.ref ae, .ref al, .ref ap, .ref az, .ref ar, .int (zI np), .ref am, .int (zI th)]))]) (va_runV (As := [.int (zI a), .int (zI 0), .int (zI 9)]) (rest := [.ref h0]) CF (c_X6_isWithin l D cI h0 ae al ap az ar am np th xe xl a 0 9 (by omega) (by omega) (by exact hxe) (by omega) (by omega) H.size) (cwV 3 hts gX6_multiply_X6_isWithin rfl rfl rfl (by decide +kernel) ⟨Nat.le_of_ble_eq_true rfl, Nat.le_of_ble_eq_true rfl⟩) (z_preV (va_recv hK hP (ci := 5) (q0 := 0) rfl rfl) z_nilP (z_nilD (A := A)) hRc z_noX (hK.sub (tys' := [(cI, .int)]) [0] rfl)) rfl rfl hl.1 rfl (lv_room (Nat.le_of_ble_eq_true rfl)) dX6_multiply_49 ⟨Nat.le_of_ble_eq_true rfl, Nat.le_of_ble_eq_true rfl⟩) hP hS hA (cells' := 0) (slots' := 0) rfl rfl (fun H locs hP hS => ?_)
  have hR := hR0.at hS
  refine z_ifB_eq (tgt := 66) hx hb dX6_multiply_52 (by decide) (fun c_52 => ?_) (fun c_52 => absurd c_52 (by exact fun z => hwa (fun k h1 h2 => of_decide_eq_true ((zAll_iff _ _).mp z k h1 (by omega)))))
  refine z_iconst hx hb dX6_multiply_66 ?_
  refine lv_goto (tgt := 100) hx hb dX6_multiply_67 (by decide) ?_
  refine va_put (D := D) (ci := 5) (v := .int (zI 2)) (ty := .int) (C := RX6) (T := TX6) (N := 8) hx hb hts hi6 tyX6 tyX6_ok nmX6 hown hK hP hD hS 0 rfl rfl 7 (by decide) (hts (.fieldLink RX6 28 "ButterflyYardModel" "thrown" "I") (by decide +kernel)) (fun _ h9 => h9) rfl (by decide +kernel) rfl rfl (Nat.le_of_ble_eq_true rfl) dX6_multiply_100 (fun H locs hP hD hS => ?_)
  have hP : va_P D vwCl [(h0, .inr (5, [.ref ae, .ref al, .ref ap, .ref az, .ref ar, .int (zI np), .ref am, .int (zI 2)]))] H := hP
  have hD : va_D A [(h0, .inr (5, [.ref ae, .ref al, .ref ap, .ref az, .ref ar, .int (zI np), .ref am, .int (zI 2)]))] := hD
  have hR := hR0.at hS
  refine lv_aload_n hx hb dX6_multiply_103 rfl (lv_at hl 0 rfl) ?_
  refine va_get (D := D) (ci := 5) (C := RX6) (T := TX6) (N := 8) hx hb hts hi6 hown hK hP 0 rfl rfl 7 (by decide) (hts (.fieldLink RX6 28 "ButterflyYardModel" "thrown" "I") (by decide +kernel)) (fun _ h9 => h9) rfl dX6_multiply_104 ?_
  refine z_if_eq (tgt := 112) hx hb dX6_multiply_107 (by decide) (by omega) (fun c_107 => absurd c_107 (by omega)) (fun c_107 => ?_)
  refine z_iconst hx hb dX6_multiply_110 ?_
  exact z_iret hx hb hr hlocks rfl () (rfl) (trivial) hP hD hS dX6_multiply_111

set_option maxHeartbeats 4000000 in
set_option maxRecDepth 100000 in
theorem c_X6_multiply_2b (l : Launch) (D : va_G) (cI : ClassId) (h0 : Nat) (ae : Nat) (al : Nat) (ap : Nat) (az : Nat) (ar : Nat) (am : Nat) (np : Int) (th : Int) (xe : Int → Int) (xl : Int → Int) (a : Int) (b : Int) (t : Int) (ha_a : -2147483648 ≤ a ∧ a ≤ 2147483647) (ha_b : -2147483648 ≤ b ∧ b ≤ 2147483647) (ha_t : -2147483648 ≤ t ∧ t ≤ 2147483647) (hnp_ : 0 ≤ np ∧ np ≤ 8) (hr_a : 0 ≤ a ∧ a < 4) (hr_b : 0 ≤ b ∧ b < 4) (hr_t : 0 ≤ t ∧ t < 4) (hxl_a : 0 ≤ xl a ∧ xl a ≤ 64) (hxl_b : 0 ≤ xl b ∧ xl b ≤ 64) (hxe : ∀ k, 0 ≤ k → k < 256 → -1000000 ≤ xe k ∧ xe k ≤ 1000000) (hwa : ∀ k, 0 ≤ k → k < xl a → 0 ≤ eRow xe a k ∧ eRow xe a k ≤ 9) (hwb : ¬ (∀ k, 0 ≤ k → k < xl b → 0 ≤ eRow xe b k ∧ eRow xe b k ≤ 9)) : zC l yX6_multiply wsX6_multiply ({ frames := 1, cells := 0, slots := 0, locals := 25 } : Room) D [(cI, .int)] [(h0, .inr (5, [.ref ae, .ref al, .ref ap, .ref az, .ref ar, .int (zI np), .ref am, .int (zI th)]))] [(ae, .inl (cI, 256, .inl (zA xe))), (al, .inl (cI, 4, .inl (zA xl)))] [.ref h0, .int (zI a), .int (zI b), .int (zI t)] (S := Unit) (fun u => True) (fun u => some (.int (zI 0))) (fun u => [(h0, .inr (5, [.ref ae, .ref al, .ref ap, .ref az, .ref ar, .int (zI np), .ref am, .int (zI 2)]))]) := by
  refine z_start (cc := cX6_multiply) (maxL := 7) (ret := (some .int)) (own := RX6) (by decide) rfl rfl (Nat.le_of_ble_eq_true rfl) [(0, .ref h0), (1, .int (zI a)), (2, .int (zI b)), (3, .int (zI t))] rfl ?_
  intro pp ee s mm below meth cc A H ls hx hb hr hml hts hown hlocks hin hK hA hP hD hS hR0 hR hl
  have CF : CallFix pp mm cc cX6_multiply 7 s ([.ref h0, .int (zI a), .int (zI b), .int (zI t)] : List Value).toArray wsX6_multiply RX6 := ⟨hx, hb, hml, hown, hts⟩
  have hi6 : ∀ w ∈ wsX60, w ∈ wsX6_multiply := by decide +kernel
  refine lv_iload_n hx hb dX6_multiply_0 rfl (lv_at hl 1 rfl) ?_
  have hRc : va_P D vwCl [] H := z_nilP
  refine z_ro (ws := [(h0, .inr (5, [.ref ae, .ref al, .ref ap, .ref az, .ref ar, .int (zI np), .ref am, .int (zI th)]))]) (va_runS (As := [.int (zI a)]) (rest := []) CF (c_X6_isRow l D a (by omega) H.size) (va_cwS 1 hts gX6_multiply_X6_isRow rfl rfl rfl (by decide +kernel) ⟨Nat.le_of_ble_eq_true rfl, Nat.le_of_ble_eq_true rfl⟩) (z_preS z_nilP (z_nilD (A := A)) hRc z_noX (hK.sub (tys' := []) [] rfl)) rfl rfl hl.1 rfl (lv_room (Nat.le_of_ble_eq_true rfl)) dX6_multiply_1 ⟨Nat.le_of_ble_eq_true rfl, Nat.le_of_ble_eq_true rfl⟩) hP hS hA (cells' := 0) (slots' := 0) rfl rfl (fun H locs hP hS => ?_)
  have hR := hR0.at hS
  refine z_ifB_eq (tgt := 21) hx hb dX6_multiply_4 (by decide) (fun c_4 => absurd c_4 (by omega)) (fun c_4 => ?_)
  refine lv_iload_n hx hb dX6_multiply_7 rfl (lv_at hl 2 rfl) ?_
  have hRc : va_P D vwCl [] H := z_nilP
  refine z_ro (ws := [(h0, .inr (5, [.ref ae, .ref al, .ref ap, .ref az, .ref ar, .int (zI np), .ref am, .int (zI th)]))]) (va_runS (As := [.int (zI b)]) (rest := []) CF (c_X6_isRow l D b (by omega) H.size) (va_cwS 1 hts gX6_multiply_X6_isRow rfl rfl rfl (by decide +kernel) ⟨Nat.le_of_ble_eq_true rfl, Nat.le_of_ble_eq_true rfl⟩) (z_preS z_nilP (z_nilD (A := A)) hRc z_noX (hK.sub (tys' := []) [] rfl)) rfl rfl hl.1 rfl (lv_room (Nat.le_of_ble_eq_true rfl)) dX6_multiply_8 ⟨Nat.le_of_ble_eq_true rfl, Nat.le_of_ble_eq_true rfl⟩) hP hS hA (cells' := 0) (slots' := 0) rfl rfl (fun H locs hP hS => ?_)
  have hR := hR0.at hS
  refine z_ifB_eq (tgt := 21) hx hb dX6_multiply_11 (by decide) (fun c_11 => absurd c_11 (by omega)) (fun c_11 => ?_)
  refine lv_iload_n hx hb dX6_multiply_14 rfl (lv_at hl 3 rfl) ?_
  have hRc : va_P D vwCl [] H := z_nilP
  refine z_ro (ws := [(h0, .inr (5, [.ref ae, .ref al, .ref ap, .ref az, .ref ar, .int (zI np), .ref am, .int (zI th)]))]) (va_runS (As := [.int (zI t)]) (rest := []) CF (c_X6_isRow l D t (by omega) H.size) (va_cwS 1 hts gX6_multiply_X6_isRow rfl rfl rfl (by decide +kernel) ⟨Nat.le_of_ble_eq_true rfl, Nat.le_of_ble_eq_true rfl⟩) (z_preS z_nilP (z_nilD (A := A)) hRc z_noX (hK.sub (tys' := []) [] rfl)) rfl rfl hl.1 rfl (lv_room (Nat.le_of_ble_eq_true rfl)) dX6_multiply_15 ⟨Nat.le_of_ble_eq_true rfl, Nat.le_of_ble_eq_true rfl⟩) hP hS hA (cells' := 0) (slots' := 0) rfl rfl (fun H locs hP hS => ?_)
  have hR := hR0.at hS
  refine z_ifB_ne (tgt := 28) hx hb dX6_multiply_18 (by decide) (fun c_18 => ?_) (fun c_18 => absurd c_18 (by omega))
  refine lv_aload_n hx hb dX6_multiply_28 rfl (lv_at hl 0 rfl) ?_
  refine va_get (D := D) (ci := 5) (C := RX6) (T := TX6) (N := 8) hx hb hts hi6 hown hK hP 0 rfl rfl 1 (by decide) (hts (.fieldLink RX6 13 "ButterflyYardModel" "lengths" "[I") (by decide +kernel)) (fun _ h9 => h9) rfl dX6_multiply_29 ?_
  refine lv_iload_n hx hb dX6_multiply_32 rfl (lv_at hl 1 rfl) ?_
  refine z_iald (cA := cI) (n := 4) (g := xl) hx hb hK hR 1 0 rfl rfl rfl (by omega) dX6_multiply_33 ?_
  refine lv_aload_n hx hb dX6_multiply_34 rfl (lv_at hl 0 rfl) ?_
  refine va_get (D := D) (ci := 5) (C := RX6) (T := TX6) (N := 8) hx hb hts hi6 hown hK hP 0 rfl rfl 1 (by decide) (hts (.fieldLink RX6 13 "ButterflyYardModel" "lengths" "[I") (by decide +kernel)) (fun _ h9 => h9) rfl dX6_multiply_35 ?_
  refine lv_iload_n hx hb dX6_multiply_38 rfl (lv_at hl 2 rfl) ?_
  refine z_iald (cA := cI) (n := 4) (g := xl) hx hb hK hR 1 0 rfl rfl rfl (by omega) dX6_multiply_39 ?_
  refine z_iadd hx hb dX6_multiply_40 ?_
  refine lv_istore (lv' := [(4, .int (zI ((xl a) + (xl b)))), (0, .ref h0), (1, .int (zI a)), (2, .int (zI b)), (3, .int (zI t))]) hx hb dX6_multiply_41 hl (by decide) rfl (fun ls hl => ?_)
  have hl := lv_sub hl [1, 2, 3, 4, 0] rfl
  have hl : lv_has ls 7 [(0, .ref h0), (1, .int (zI a)), (2, .int (zI b)), (3, .int (zI t)), (4, .int (zI ((xl a) + (xl b))))] := hl
  refine lv_aload_n hx hb dX6_multiply_43 rfl (lv_at hl 0 rfl) ?_
  refine lv_aload_n hx hb dX6_multiply_44 rfl (lv_at hl 0 rfl) ?_
  refine lv_iload_n hx hb dX6_multiply_45 rfl (lv_at hl 1 rfl) ?_
  refine z_iconst hx hb dX6_multiply_46 ?_
  refine z_bipush hx hb dX6_multiply_47 (by decide) ?_
  have hRc := z_subR (ws := [(h0, .inr (5, [.ref ae, .ref al, .ref ap, .ref az, .ref ar, .int (zI np), .ref am, .int (zI th)]))]) (rs := [(ae, .inl (cI, 256, .inl (zA xe))), (al, .inl (cI, 4, .inl (zA xl)))]) (rc := [(h0, .inr (5, [.ref ae, .ref al, .ref ap, .ref az, .ref ar, .int (zI np), .ref am, .int (zI th)])), (ae, .inl (cI, 256, .inl (zA xe))), (al, .inl (cI, 4, .inl (zA xl)))]) hP hR (isR := [0, 1, 2]) rfl
  refine z_ro (ws := [(h0, .inr (5, [.ref ae, .ref al, .ref ap, .ref az, .ref ar, .int (zI np), .ref am, .int (zI th)]))]) (va_runV (As := [.int (zI a), .int (zI 0), .int (zI 9)]) (rest := [.ref h0]) CF (c_X6_isWithin l D cI h0 ae al ap az ar am np th xe xl a 0 9 (by omega) (by omega) (by exact hxe) (by omega) (by omega) H.size) (cwV 3 hts gX6_multiply_X6_isWithin rfl rfl rfl (by decide +kernel) ⟨Nat.le_of_ble_eq_true rfl, Nat.le_of_ble_eq_true rfl⟩) (z_preV (va_recv hK hP (ci := 5) (q0 := 0) rfl rfl) z_nilP (z_nilD (A := A)) hRc z_noX (hK.sub (tys' := [(cI, .int)]) [0] rfl)) rfl rfl hl.1 rfl (lv_room (Nat.le_of_ble_eq_true rfl)) dX6_multiply_49 ⟨Nat.le_of_ble_eq_true rfl, Nat.le_of_ble_eq_true rfl⟩) hP hS hA (cells' := 0) (slots' := 0) rfl rfl (fun H locs hP hS => ?_)
  have hR := hR0.at hS
  refine z_ifB_eq (tgt := 66) hx hb dX6_multiply_52 (by decide) (fun c_52 => absurd c_52 (by exact not_not_intro ((zAll_iff _ _).mpr (fun k h1 h2 => decide_eq_true (hwa k h1 (by omega)))))) (fun c_52 => ?_)
  refine lv_aload_n hx hb dX6_multiply_55 rfl (lv_at hl 0 rfl) ?_
  refine lv_iload_n hx hb dX6_multiply_56 rfl (lv_at hl 2 rfl) ?_
  refine z_iconst hx hb dX6_multiply_57 ?_
  refine z_bipush hx hb dX6_multiply_58 (by decide) ?_
  have hRc := z_subR (ws := [(h0, .inr (5, [.ref ae, .ref al, .ref ap, .ref az, .ref ar, .int (zI np), .ref am, .int (zI th)]))]) (rs := [(ae, .inl (cI, 256, .inl (zA xe))), (al, .inl (cI, 4, .inl (zA xl)))]) (rc := [(h0, .inr (5, [.ref ae, .ref al, .ref ap, .ref az, .ref ar, .int (zI np), .ref am, .int (zI th)])), (ae, .inl (cI, 256, .inl (zA xe))), (al, .inl (cI, 4, .inl (zA xl)))]) hP hR (isR := [0, 1, 2]) rfl
  refine z_ro (ws := [(h0, .inr (5, [.ref ae, .ref al, .ref ap, .ref az, .ref ar, .int (zI np), .ref am, .int (zI th)]))]) (va_runV (As := [.int (zI b), .int (zI 0), .int (zI 9)]) (rest := [.ref h0]) CF (c_X6_isWithin l D cI h0 ae al ap az ar am np th xe xl b 0 9 (by omega) (by omega) (by exact hxe) (by omega) (by omega) H.size) (cwV 3 hts gX6_multiply_X6_isWithin rfl rfl rfl (by decide +kernel) ⟨Nat.le_of_ble_eq_true rfl, Nat.le_of_ble_eq_true rfl⟩) (z_preV (va_recv hK hP (ci := 5) (q0 := 0) rfl rfl) z_nilP (z_nilD (A := A)) hRc z_noX (hK.sub (tys' := [(cI, .int)]) [0] rfl)) rfl rfl hl.1 rfl (lv_room (Nat.le_of_ble_eq_true rfl)) dX6_multiply_60 ⟨Nat.le_of_ble_eq_true rfl, Nat.le_of_ble_eq_true rfl⟩) hP hS hA (cells' := 0) (slots' := 0) rfl rfl (fun H locs hP hS => ?_)
  have hR := hR0.at hS
  refine z_ifB_ne (tgt := 70) hx hb dX6_multiply_63 (by decide) (fun c_63 => absurd c_63 (by exact fun z => hwb (fun k h1 h2 => of_decide_eq_true ((zAll_iff _ _).mp z k h1 (by omega))))) (fun c_63 => ?_)
  refine z_iconst hx hb dX6_multiply_66 ?_
  refine lv_goto (tgt := 100) hx hb dX6_multiply_67 (by decide) ?_
  refine va_put (D := D) (ci := 5) (v := .int (zI 2)) (ty := .int) (C := RX6) (T := TX6) (N := 8) hx hb hts hi6 tyX6 tyX6_ok nmX6 hown hK hP hD hS 0 rfl rfl 7 (by decide) (hts (.fieldLink RX6 28 "ButterflyYardModel" "thrown" "I") (by decide +kernel)) (fun _ h9 => h9) rfl (by decide +kernel) rfl rfl (Nat.le_of_ble_eq_true rfl) dX6_multiply_100 (fun H locs hP hD hS => ?_)
  have hP : va_P D vwCl [(h0, .inr (5, [.ref ae, .ref al, .ref ap, .ref az, .ref ar, .int (zI np), .ref am, .int (zI 2)]))] H := hP
  have hD : va_D A [(h0, .inr (5, [.ref ae, .ref al, .ref ap, .ref az, .ref ar, .int (zI np), .ref am, .int (zI 2)]))] := hD
  have hR := hR0.at hS
  refine lv_aload_n hx hb dX6_multiply_103 rfl (lv_at hl 0 rfl) ?_
  refine va_get (D := D) (ci := 5) (C := RX6) (T := TX6) (N := 8) hx hb hts hi6 hown hK hP 0 rfl rfl 7 (by decide) (hts (.fieldLink RX6 28 "ButterflyYardModel" "thrown" "I") (by decide +kernel)) (fun _ h9 => h9) rfl dX6_multiply_104 ?_
  refine z_if_eq (tgt := 112) hx hb dX6_multiply_107 (by decide) (by omega) (fun c_107 => absurd c_107 (by omega)) (fun c_107 => ?_)
  refine z_iconst hx hb dX6_multiply_110 ?_
  exact z_iret hx hb hr hlocks rfl () (rfl) (trivial) hP hD hS dX6_multiply_111

set_option maxHeartbeats 4000000 in
set_option maxRecDepth 100000 in
theorem c_X6_multiply_3a (l : Launch) (D : va_G) (cI : ClassId) (h0 : Nat) (ae : Nat) (al : Nat) (ap : Nat) (az : Nat) (ar : Nat) (am : Nat) (np : Int) (th : Int) (xe : Int → Int) (xl : Int → Int) (a : Int) (b : Int) (t : Int) (ha_a : -2147483648 ≤ a ∧ a ≤ 2147483647) (ha_b : -2147483648 ≤ b ∧ b ≤ 2147483647) (ha_t : -2147483648 ≤ t ∧ t ≤ 2147483647) (hnp_ : 0 ≤ np ∧ np ≤ 8) (hr_a : 0 ≤ a ∧ a < 4) (hr_b : 0 ≤ b ∧ b < 4) (hr_t : 0 ≤ t ∧ t < 4) (hxl_a : 0 ≤ xl a ∧ xl a ≤ 64) (hxl_b : 0 ≤ xl b ∧ xl b ≤ 64) (hxe : ∀ k, 0 ≤ k → k < 256 → -1000000 ≤ xe k ∧ xe k ≤ 1000000) (hwa : ∀ k, 0 ≤ k → k < xl a → 0 ≤ eRow xe a k ∧ eRow xe a k ≤ 9) (hwb : ∀ k, 0 ≤ k → k < xl b → 0 ≤ eRow xe b k ∧ eRow xe b k ≤ 9) (hla : xl a = 0) : zC l yX6_multiply wsX6_multiply ({ frames := 1, cells := 0, slots := 0, locals := 25 } : Room) D [(cI, .int)] [(h0, .inr (5, [.ref ae, .ref al, .ref ap, .ref az, .ref ar, .int (zI np), .ref am, .int (zI th)]))] [(ae, .inl (cI, 256, .inl (zA xe))), (al, .inl (cI, 4, .inl (zA xl)))] [.ref h0, .int (zI a), .int (zI b), .int (zI t)] (S := Unit) (fun u => True) (fun u => some (.int (zI 0))) (fun u => [(h0, .inr (5, [.ref ae, .ref al, .ref ap, .ref az, .ref ar, .int (zI np), .ref am, .int (zI 3)]))]) := by
  refine z_start (cc := cX6_multiply) (maxL := 7) (ret := (some .int)) (own := RX6) (by decide) rfl rfl (Nat.le_of_ble_eq_true rfl) [(0, .ref h0), (1, .int (zI a)), (2, .int (zI b)), (3, .int (zI t))] rfl ?_
  intro pp ee s mm below meth cc A H ls hx hb hr hml hts hown hlocks hin hK hA hP hD hS hR0 hR hl
  have CF : CallFix pp mm cc cX6_multiply 7 s ([.ref h0, .int (zI a), .int (zI b), .int (zI t)] : List Value).toArray wsX6_multiply RX6 := ⟨hx, hb, hml, hown, hts⟩
  have hi6 : ∀ w ∈ wsX60, w ∈ wsX6_multiply := by decide +kernel
  refine lv_iload_n hx hb dX6_multiply_0 rfl (lv_at hl 1 rfl) ?_
  have hRc : va_P D vwCl [] H := z_nilP
  refine z_ro (ws := [(h0, .inr (5, [.ref ae, .ref al, .ref ap, .ref az, .ref ar, .int (zI np), .ref am, .int (zI th)]))]) (va_runS (As := [.int (zI a)]) (rest := []) CF (c_X6_isRow l D a (by omega) H.size) (va_cwS 1 hts gX6_multiply_X6_isRow rfl rfl rfl (by decide +kernel) ⟨Nat.le_of_ble_eq_true rfl, Nat.le_of_ble_eq_true rfl⟩) (z_preS z_nilP (z_nilD (A := A)) hRc z_noX (hK.sub (tys' := []) [] rfl)) rfl rfl hl.1 rfl (lv_room (Nat.le_of_ble_eq_true rfl)) dX6_multiply_1 ⟨Nat.le_of_ble_eq_true rfl, Nat.le_of_ble_eq_true rfl⟩) hP hS hA (cells' := 0) (slots' := 0) rfl rfl (fun H locs hP hS => ?_)
  have hR := hR0.at hS
  refine z_ifB_eq (tgt := 21) hx hb dX6_multiply_4 (by decide) (fun c_4 => absurd c_4 (by omega)) (fun c_4 => ?_)
  refine lv_iload_n hx hb dX6_multiply_7 rfl (lv_at hl 2 rfl) ?_
  have hRc : va_P D vwCl [] H := z_nilP
  refine z_ro (ws := [(h0, .inr (5, [.ref ae, .ref al, .ref ap, .ref az, .ref ar, .int (zI np), .ref am, .int (zI th)]))]) (va_runS (As := [.int (zI b)]) (rest := []) CF (c_X6_isRow l D b (by omega) H.size) (va_cwS 1 hts gX6_multiply_X6_isRow rfl rfl rfl (by decide +kernel) ⟨Nat.le_of_ble_eq_true rfl, Nat.le_of_ble_eq_true rfl⟩) (z_preS z_nilP (z_nilD (A := A)) hRc z_noX (hK.sub (tys' := []) [] rfl)) rfl rfl hl.1 rfl (lv_room (Nat.le_of_ble_eq_true rfl)) dX6_multiply_8 ⟨Nat.le_of_ble_eq_true rfl, Nat.le_of_ble_eq_true rfl⟩) hP hS hA (cells' := 0) (slots' := 0) rfl rfl (fun H locs hP hS => ?_)
  have hR := hR0.at hS
  refine z_ifB_eq (tgt := 21) hx hb dX6_multiply_11 (by decide) (fun c_11 => absurd c_11 (by omega)) (fun c_11 => ?_)
  refine lv_iload_n hx hb dX6_multiply_14 rfl (lv_at hl 3 rfl) ?_
  have hRc : va_P D vwCl [] H := z_nilP
  refine z_ro (ws := [(h0, .inr (5, [.ref ae, .ref al, .ref ap, .ref az, .ref ar, .int (zI np), .ref am, .int (zI th)]))]) (va_runS (As := [.int (zI t)]) (rest := []) CF (c_X6_isRow l D t (by omega) H.size) (va_cwS 1 hts gX6_multiply_X6_isRow rfl rfl rfl (by decide +kernel) ⟨Nat.le_of_ble_eq_true rfl, Nat.le_of_ble_eq_true rfl⟩) (z_preS z_nilP (z_nilD (A := A)) hRc z_noX (hK.sub (tys' := []) [] rfl)) rfl rfl hl.1 rfl (lv_room (Nat.le_of_ble_eq_true rfl)) dX6_multiply_15 ⟨Nat.le_of_ble_eq_true rfl, Nat.le_of_ble_eq_true rfl⟩) hP hS hA (cells' := 0) (slots' := 0) rfl rfl (fun H locs hP hS => ?_)
  have hR := hR0.at hS
  refine z_ifB_ne (tgt := 28) hx hb dX6_multiply_18 (by decide) (fun c_18 => ?_) (fun c_18 => absurd c_18 (by omega))
  refine lv_aload_n hx hb dX6_multiply_28 rfl (lv_at hl 0 rfl) ?_
  refine va_get (D := D) (ci := 5) (C := RX6) (T := TX6) (N := 8) hx hb hts hi6 hown hK hP 0 rfl rfl 1 (by decide) (hts (.fieldLink RX6 13 "ButterflyYardModel" "lengths" "[I") (by decide +kernel)) (fun _ h9 => h9) rfl dX6_multiply_29 ?_
  refine lv_iload_n hx hb dX6_multiply_32 rfl (lv_at hl 1 rfl) ?_
  refine z_iald (cA := cI) (n := 4) (g := xl) hx hb hK hR 1 0 rfl rfl rfl (by omega) dX6_multiply_33 ?_
  refine lv_aload_n hx hb dX6_multiply_34 rfl (lv_at hl 0 rfl) ?_
  refine va_get (D := D) (ci := 5) (C := RX6) (T := TX6) (N := 8) hx hb hts hi6 hown hK hP 0 rfl rfl 1 (by decide) (hts (.fieldLink RX6 13 "ButterflyYardModel" "lengths" "[I") (by decide +kernel)) (fun _ h9 => h9) rfl dX6_multiply_35 ?_
  refine lv_iload_n hx hb dX6_multiply_38 rfl (lv_at hl 2 rfl) ?_
  refine z_iald (cA := cI) (n := 4) (g := xl) hx hb hK hR 1 0 rfl rfl rfl (by omega) dX6_multiply_39 ?_
  refine z_iadd hx hb dX6_multiply_40 ?_
  refine lv_istore (lv' := [(4, .int (zI ((xl a) + (xl b)))), (0, .ref h0), (1, .int (zI a)), (2, .int (zI b)), (3, .int (zI t))]) hx hb dX6_multiply_41 hl (by decide) rfl (fun ls hl => ?_)
  have hl := lv_sub hl [1, 2, 3, 4, 0] rfl
  have hl : lv_has ls 7 [(0, .ref h0), (1, .int (zI a)), (2, .int (zI b)), (3, .int (zI t)), (4, .int (zI ((xl a) + (xl b))))] := hl
  refine lv_aload_n hx hb dX6_multiply_43 rfl (lv_at hl 0 rfl) ?_
  refine lv_aload_n hx hb dX6_multiply_44 rfl (lv_at hl 0 rfl) ?_
  refine lv_iload_n hx hb dX6_multiply_45 rfl (lv_at hl 1 rfl) ?_
  refine z_iconst hx hb dX6_multiply_46 ?_
  refine z_bipush hx hb dX6_multiply_47 (by decide) ?_
  have hRc := z_subR (ws := [(h0, .inr (5, [.ref ae, .ref al, .ref ap, .ref az, .ref ar, .int (zI np), .ref am, .int (zI th)]))]) (rs := [(ae, .inl (cI, 256, .inl (zA xe))), (al, .inl (cI, 4, .inl (zA xl)))]) (rc := [(h0, .inr (5, [.ref ae, .ref al, .ref ap, .ref az, .ref ar, .int (zI np), .ref am, .int (zI th)])), (ae, .inl (cI, 256, .inl (zA xe))), (al, .inl (cI, 4, .inl (zA xl)))]) hP hR (isR := [0, 1, 2]) rfl
  refine z_ro (ws := [(h0, .inr (5, [.ref ae, .ref al, .ref ap, .ref az, .ref ar, .int (zI np), .ref am, .int (zI th)]))]) (va_runV (As := [.int (zI a), .int (zI 0), .int (zI 9)]) (rest := [.ref h0]) CF (c_X6_isWithin l D cI h0 ae al ap az ar am np th xe xl a 0 9 (by omega) (by omega) (by exact hxe) (by omega) (by omega) H.size) (cwV 3 hts gX6_multiply_X6_isWithin rfl rfl rfl (by decide +kernel) ⟨Nat.le_of_ble_eq_true rfl, Nat.le_of_ble_eq_true rfl⟩) (z_preV (va_recv hK hP (ci := 5) (q0 := 0) rfl rfl) z_nilP (z_nilD (A := A)) hRc z_noX (hK.sub (tys' := [(cI, .int)]) [0] rfl)) rfl rfl hl.1 rfl (lv_room (Nat.le_of_ble_eq_true rfl)) dX6_multiply_49 ⟨Nat.le_of_ble_eq_true rfl, Nat.le_of_ble_eq_true rfl⟩) hP hS hA (cells' := 0) (slots' := 0) rfl rfl (fun H locs hP hS => ?_)
  have hR := hR0.at hS
  refine z_ifB_eq (tgt := 66) hx hb dX6_multiply_52 (by decide) (fun c_52 => absurd c_52 (by exact not_not_intro ((zAll_iff _ _).mpr (fun k h1 h2 => decide_eq_true (hwa k h1 (by omega)))))) (fun c_52 => ?_)
  refine lv_aload_n hx hb dX6_multiply_55 rfl (lv_at hl 0 rfl) ?_
  refine lv_iload_n hx hb dX6_multiply_56 rfl (lv_at hl 2 rfl) ?_
  refine z_iconst hx hb dX6_multiply_57 ?_
  refine z_bipush hx hb dX6_multiply_58 (by decide) ?_
  have hRc := z_subR (ws := [(h0, .inr (5, [.ref ae, .ref al, .ref ap, .ref az, .ref ar, .int (zI np), .ref am, .int (zI th)]))]) (rs := [(ae, .inl (cI, 256, .inl (zA xe))), (al, .inl (cI, 4, .inl (zA xl)))]) (rc := [(h0, .inr (5, [.ref ae, .ref al, .ref ap, .ref az, .ref ar, .int (zI np), .ref am, .int (zI th)])), (ae, .inl (cI, 256, .inl (zA xe))), (al, .inl (cI, 4, .inl (zA xl)))]) hP hR (isR := [0, 1, 2]) rfl
  refine z_ro (ws := [(h0, .inr (5, [.ref ae, .ref al, .ref ap, .ref az, .ref ar, .int (zI np), .ref am, .int (zI th)]))]) (va_runV (As := [.int (zI b), .int (zI 0), .int (zI 9)]) (rest := [.ref h0]) CF (c_X6_isWithin l D cI h0 ae al ap az ar am np th xe xl b 0 9 (by omega) (by omega) (by exact hxe) (by omega) (by omega) H.size) (cwV 3 hts gX6_multiply_X6_isWithin rfl rfl rfl (by decide +kernel) ⟨Nat.le_of_ble_eq_true rfl, Nat.le_of_ble_eq_true rfl⟩) (z_preV (va_recv hK hP (ci := 5) (q0 := 0) rfl rfl) z_nilP (z_nilD (A := A)) hRc z_noX (hK.sub (tys' := [(cI, .int)]) [0] rfl)) rfl rfl hl.1 rfl (lv_room (Nat.le_of_ble_eq_true rfl)) dX6_multiply_60 ⟨Nat.le_of_ble_eq_true rfl, Nat.le_of_ble_eq_true rfl⟩) hP hS hA (cells' := 0) (slots' := 0) rfl rfl (fun H locs hP hS => ?_)
  have hR := hR0.at hS
  refine z_ifB_ne (tgt := 70) hx hb dX6_multiply_63 (by decide) (fun c_63 => ?_) (fun c_63 => absurd c_63 (by exact not_not_intro ((zAll_iff _ _).mpr (fun k h1 h2 => decide_eq_true (hwb k h1 (by omega))))))
  refine lv_aload_n hx hb dX6_multiply_70 rfl (lv_at hl 0 rfl) ?_
  refine va_get (D := D) (ci := 5) (C := RX6) (T := TX6) (N := 8) hx hb hts hi6 hown hK hP 0 rfl rfl 1 (by decide) (hts (.fieldLink RX6 13 "ButterflyYardModel" "lengths" "[I") (by decide +kernel)) (fun _ h9 => h9) rfl dX6_multiply_71 ?_
  refine lv_iload_n hx hb dX6_multiply_74 rfl (lv_at hl 1 rfl) ?_
  refine z_iald (cA := cI) (n := 4) (g := xl) hx hb hK hR 1 0 rfl rfl rfl (by omega) dX6_multiply_75 ?_
  refine z_if_eq (tgt := 95) hx hb dX6_multiply_76 (by decide) (by omega) (fun c_76 => ?_) (fun c_76 => absurd c_76 (by omega))
  refine z_iconst hx hb dX6_multiply_95 ?_
  refine lv_goto (tgt := 100) hx hb dX6_multiply_96 (by decide) ?_
  refine va_put (D := D) (ci := 5) (v := .int (zI 3)) (ty := .int) (C := RX6) (T := TX6) (N := 8) hx hb hts hi6 tyX6 tyX6_ok nmX6 hown hK hP hD hS 0 rfl rfl 7 (by decide) (hts (.fieldLink RX6 28 "ButterflyYardModel" "thrown" "I") (by decide +kernel)) (fun _ h9 => h9) rfl (by decide +kernel) rfl rfl (Nat.le_of_ble_eq_true rfl) dX6_multiply_100 (fun H locs hP hD hS => ?_)
  have hP : va_P D vwCl [(h0, .inr (5, [.ref ae, .ref al, .ref ap, .ref az, .ref ar, .int (zI np), .ref am, .int (zI 3)]))] H := hP
  have hD : va_D A [(h0, .inr (5, [.ref ae, .ref al, .ref ap, .ref az, .ref ar, .int (zI np), .ref am, .int (zI 3)]))] := hD
  have hR := hR0.at hS
  refine lv_aload_n hx hb dX6_multiply_103 rfl (lv_at hl 0 rfl) ?_
  refine va_get (D := D) (ci := 5) (C := RX6) (T := TX6) (N := 8) hx hb hts hi6 hown hK hP 0 rfl rfl 7 (by decide) (hts (.fieldLink RX6 28 "ButterflyYardModel" "thrown" "I") (by decide +kernel)) (fun _ h9 => h9) rfl dX6_multiply_104 ?_
  refine z_if_eq (tgt := 112) hx hb dX6_multiply_107 (by decide) (by omega) (fun c_107 => absurd c_107 (by omega)) (fun c_107 => ?_)
  refine z_iconst hx hb dX6_multiply_110 ?_
  exact z_iret hx hb hr hlocks rfl () (rfl) (trivial) hP hD hS dX6_multiply_111

set_option maxHeartbeats 4000000 in
set_option maxRecDepth 100000 in
theorem c_X6_multiply_3b (l : Launch) (D : va_G) (cI : ClassId) (h0 : Nat) (ae : Nat) (al : Nat) (ap : Nat) (az : Nat) (ar : Nat) (am : Nat) (np : Int) (th : Int) (xe : Int → Int) (xl : Int → Int) (a : Int) (b : Int) (t : Int) (ha_a : -2147483648 ≤ a ∧ a ≤ 2147483647) (ha_b : -2147483648 ≤ b ∧ b ≤ 2147483647) (ha_t : -2147483648 ≤ t ∧ t ≤ 2147483647) (hnp_ : 0 ≤ np ∧ np ≤ 8) (hr_a : 0 ≤ a ∧ a < 4) (hr_b : 0 ≤ b ∧ b < 4) (hr_t : 0 ≤ t ∧ t < 4) (hxl_a : 0 ≤ xl a ∧ xl a ≤ 64) (hxl_b : 0 ≤ xl b ∧ xl b ≤ 64) (hxe : ∀ k, 0 ≤ k → k < 256 → -1000000 ≤ xe k ∧ xe k ≤ 1000000) (hwa : ∀ k, 0 ≤ k → k < xl a → 0 ≤ eRow xe a k ∧ eRow xe a k ≤ 9) (hwb : ∀ k, 0 ≤ k → k < xl b → 0 ≤ eRow xe b k ∧ eRow xe b k ≤ 9) (hla : xl a ≠ 0) (hlb : xl b = 0) : zC l yX6_multiply wsX6_multiply ({ frames := 1, cells := 0, slots := 0, locals := 25 } : Room) D [(cI, .int)] [(h0, .inr (5, [.ref ae, .ref al, .ref ap, .ref az, .ref ar, .int (zI np), .ref am, .int (zI th)]))] [(ae, .inl (cI, 256, .inl (zA xe))), (al, .inl (cI, 4, .inl (zA xl)))] [.ref h0, .int (zI a), .int (zI b), .int (zI t)] (S := Unit) (fun u => True) (fun u => some (.int (zI 0))) (fun u => [(h0, .inr (5, [.ref ae, .ref al, .ref ap, .ref az, .ref ar, .int (zI np), .ref am, .int (zI 3)]))]) := by
  refine z_start (cc := cX6_multiply) (maxL := 7) (ret := (some .int)) (own := RX6) (by decide) rfl rfl (Nat.le_of_ble_eq_true rfl) [(0, .ref h0), (1, .int (zI a)), (2, .int (zI b)), (3, .int (zI t))] rfl ?_
  intro pp ee s mm below meth cc A H ls hx hb hr hml hts hown hlocks hin hK hA hP hD hS hR0 hR hl
  have CF : CallFix pp mm cc cX6_multiply 7 s ([.ref h0, .int (zI a), .int (zI b), .int (zI t)] : List Value).toArray wsX6_multiply RX6 := ⟨hx, hb, hml, hown, hts⟩
  have hi6 : ∀ w ∈ wsX60, w ∈ wsX6_multiply := by decide +kernel
  refine lv_iload_n hx hb dX6_multiply_0 rfl (lv_at hl 1 rfl) ?_
  have hRc : va_P D vwCl [] H := z_nilP
  refine z_ro (ws := [(h0, .inr (5, [.ref ae, .ref al, .ref ap, .ref az, .ref ar, .int (zI np), .ref am, .int (zI th)]))]) (va_runS (As := [.int (zI a)]) (rest := []) CF (c_X6_isRow l D a (by omega) H.size) (va_cwS 1 hts gX6_multiply_X6_isRow rfl rfl rfl (by decide +kernel) ⟨Nat.le_of_ble_eq_true rfl, Nat.le_of_ble_eq_true rfl⟩) (z_preS z_nilP (z_nilD (A := A)) hRc z_noX (hK.sub (tys' := []) [] rfl)) rfl rfl hl.1 rfl (lv_room (Nat.le_of_ble_eq_true rfl)) dX6_multiply_1 ⟨Nat.le_of_ble_eq_true rfl, Nat.le_of_ble_eq_true rfl⟩) hP hS hA (cells' := 0) (slots' := 0) rfl rfl (fun H locs hP hS => ?_)
  have hR := hR0.at hS
  refine z_ifB_eq (tgt := 21) hx hb dX6_multiply_4 (by decide) (fun c_4 => absurd c_4 (by omega)) (fun c_4 => ?_)
  refine lv_iload_n hx hb dX6_multiply_7 rfl (lv_at hl 2 rfl) ?_
  have hRc : va_P D vwCl [] H := z_nilP
  refine z_ro (ws := [(h0, .inr (5, [.ref ae, .ref al, .ref ap, .ref az, .ref ar, .int (zI np), .ref am, .int (zI th)]))]) (va_runS (As := [.int (zI b)]) (rest := []) CF (c_X6_isRow l D b (by omega) H.size) (va_cwS 1 hts gX6_multiply_X6_isRow rfl rfl rfl (by decide +kernel) ⟨Nat.le_of_ble_eq_true rfl, Nat.le_of_ble_eq_true rfl⟩) (z_preS z_nilP (z_nilD (A := A)) hRc z_noX (hK.sub (tys' := []) [] rfl)) rfl rfl hl.1 rfl (lv_room (Nat.le_of_ble_eq_true rfl)) dX6_multiply_8 ⟨Nat.le_of_ble_eq_true rfl, Nat.le_of_ble_eq_true rfl⟩) hP hS hA (cells' := 0) (slots' := 0) rfl rfl (fun H locs hP hS => ?_)
  have hR := hR0.at hS
  refine z_ifB_eq (tgt := 21) hx hb dX6_multiply_11 (by decide) (fun c_11 => absurd c_11 (by omega)) (fun c_11 => ?_)
  refine lv_iload_n hx hb dX6_multiply_14 rfl (lv_at hl 3 rfl) ?_
  have hRc : va_P D vwCl [] H := z_nilP
  refine z_ro (ws := [(h0, .inr (5, [.ref ae, .ref al, .ref ap, .ref az, .ref ar, .int (zI np), .ref am, .int (zI th)]))]) (va_runS (As := [.int (zI t)]) (rest := []) CF (c_X6_isRow l D t (by omega) H.size) (va_cwS 1 hts gX6_multiply_X6_isRow rfl rfl rfl (by decide +kernel) ⟨Nat.le_of_ble_eq_true rfl, Nat.le_of_ble_eq_true rfl⟩) (z_preS z_nilP (z_nilD (A := A)) hRc z_noX (hK.sub (tys' := []) [] rfl)) rfl rfl hl.1 rfl (lv_room (Nat.le_of_ble_eq_true rfl)) dX6_multiply_15 ⟨Nat.le_of_ble_eq_true rfl, Nat.le_of_ble_eq_true rfl⟩) hP hS hA (cells' := 0) (slots' := 0) rfl rfl (fun H locs hP hS => ?_)
  have hR := hR0.at hS
  refine z_ifB_ne (tgt := 28) hx hb dX6_multiply_18 (by decide) (fun c_18 => ?_) (fun c_18 => absurd c_18 (by omega))
  refine lv_aload_n hx hb dX6_multiply_28 rfl (lv_at hl 0 rfl) ?_
  refine va_get (D := D) (ci := 5) (C := RX6) (T := TX6) (N := 8) hx hb hts hi6 hown hK hP 0 rfl rfl 1 (by decide) (hts (.fieldLink RX6 13 "ButterflyYardModel" "lengths" "[I") (by decide +kernel)) (fun _ h9 => h9) rfl dX6_multiply_29 ?_
  refine lv_iload_n hx hb dX6_multiply_32 rfl (lv_at hl 1 rfl) ?_
  refine z_iald (cA := cI) (n := 4) (g := xl) hx hb hK hR 1 0 rfl rfl rfl (by omega) dX6_multiply_33 ?_
  refine lv_aload_n hx hb dX6_multiply_34 rfl (lv_at hl 0 rfl) ?_
  refine va_get (D := D) (ci := 5) (C := RX6) (T := TX6) (N := 8) hx hb hts hi6 hown hK hP 0 rfl rfl 1 (by decide) (hts (.fieldLink RX6 13 "ButterflyYardModel" "lengths" "[I") (by decide +kernel)) (fun _ h9 => h9) rfl dX6_multiply_35 ?_
  refine lv_iload_n hx hb dX6_multiply_38 rfl (lv_at hl 2 rfl) ?_
  refine z_iald (cA := cI) (n := 4) (g := xl) hx hb hK hR 1 0 rfl rfl rfl (by omega) dX6_multiply_39 ?_
  refine z_iadd hx hb dX6_multiply_40 ?_
  refine lv_istore (lv' := [(4, .int (zI ((xl a) + (xl b)))), (0, .ref h0), (1, .int (zI a)), (2, .int (zI b)), (3, .int (zI t))]) hx hb dX6_multiply_41 hl (by decide) rfl (fun ls hl => ?_)
  have hl := lv_sub hl [1, 2, 3, 4, 0] rfl
  have hl : lv_has ls 7 [(0, .ref h0), (1, .int (zI a)), (2, .int (zI b)), (3, .int (zI t)), (4, .int (zI ((xl a) + (xl b))))] := hl
  refine lv_aload_n hx hb dX6_multiply_43 rfl (lv_at hl 0 rfl) ?_
  refine lv_aload_n hx hb dX6_multiply_44 rfl (lv_at hl 0 rfl) ?_
  refine lv_iload_n hx hb dX6_multiply_45 rfl (lv_at hl 1 rfl) ?_
  refine z_iconst hx hb dX6_multiply_46 ?_
  refine z_bipush hx hb dX6_multiply_47 (by decide) ?_
  have hRc := z_subR (ws := [(h0, .inr (5, [.ref ae, .ref al, .ref ap, .ref az, .ref ar, .int (zI np), .ref am, .int (zI th)]))]) (rs := [(ae, .inl (cI, 256, .inl (zA xe))), (al, .inl (cI, 4, .inl (zA xl)))]) (rc := [(h0, .inr (5, [.ref ae, .ref al, .ref ap, .ref az, .ref ar, .int (zI np), .ref am, .int (zI th)])), (ae, .inl (cI, 256, .inl (zA xe))), (al, .inl (cI, 4, .inl (zA xl)))]) hP hR (isR := [0, 1, 2]) rfl
  refine z_ro (ws := [(h0, .inr (5, [.ref ae, .ref al, .ref ap, .ref az, .ref ar, .int (zI np), .ref am, .int (zI th)]))]) (va_runV (As := [.int (zI a), .int (zI 0), .int (zI 9)]) (rest := [.ref h0]) CF (c_X6_isWithin l D cI h0 ae al ap az ar am np th xe xl a 0 9 (by omega) (by omega) (by exact hxe) (by omega) (by omega) H.size) (cwV 3 hts gX6_multiply_X6_isWithin rfl rfl rfl (by decide +kernel) ⟨Nat.le_of_ble_eq_true rfl, Nat.le_of_ble_eq_true rfl⟩) (z_preV (va_recv hK hP (ci := 5) (q0 := 0) rfl rfl) z_nilP (z_nilD (A := A)) hRc z_noX (hK.sub (tys' := [(cI, .int)]) [0] rfl)) rfl rfl hl.1 rfl (lv_room (Nat.le_of_ble_eq_true rfl)) dX6_multiply_49 ⟨Nat.le_of_ble_eq_true rfl, Nat.le_of_ble_eq_true rfl⟩) hP hS hA (cells' := 0) (slots' := 0) rfl rfl (fun H locs hP hS => ?_)
  have hR := hR0.at hS
  refine z_ifB_eq (tgt := 66) hx hb dX6_multiply_52 (by decide) (fun c_52 => absurd c_52 (by exact not_not_intro ((zAll_iff _ _).mpr (fun k h1 h2 => decide_eq_true (hwa k h1 (by omega)))))) (fun c_52 => ?_)
  refine lv_aload_n hx hb dX6_multiply_55 rfl (lv_at hl 0 rfl) ?_
  refine lv_iload_n hx hb dX6_multiply_56 rfl (lv_at hl 2 rfl) ?_
  refine z_iconst hx hb dX6_multiply_57 ?_
  refine z_bipush hx hb dX6_multiply_58 (by decide) ?_
  have hRc := z_subR (ws := [(h0, .inr (5, [.ref ae, .ref al, .ref ap, .ref az, .ref ar, .int (zI np), .ref am, .int (zI th)]))]) (rs := [(ae, .inl (cI, 256, .inl (zA xe))), (al, .inl (cI, 4, .inl (zA xl)))]) (rc := [(h0, .inr (5, [.ref ae, .ref al, .ref ap, .ref az, .ref ar, .int (zI np), .ref am, .int (zI th)])), (ae, .inl (cI, 256, .inl (zA xe))), (al, .inl (cI, 4, .inl (zA xl)))]) hP hR (isR := [0, 1, 2]) rfl
  refine z_ro (ws := [(h0, .inr (5, [.ref ae, .ref al, .ref ap, .ref az, .ref ar, .int (zI np), .ref am, .int (zI th)]))]) (va_runV (As := [.int (zI b), .int (zI 0), .int (zI 9)]) (rest := [.ref h0]) CF (c_X6_isWithin l D cI h0 ae al ap az ar am np th xe xl b 0 9 (by omega) (by omega) (by exact hxe) (by omega) (by omega) H.size) (cwV 3 hts gX6_multiply_X6_isWithin rfl rfl rfl (by decide +kernel) ⟨Nat.le_of_ble_eq_true rfl, Nat.le_of_ble_eq_true rfl⟩) (z_preV (va_recv hK hP (ci := 5) (q0 := 0) rfl rfl) z_nilP (z_nilD (A := A)) hRc z_noX (hK.sub (tys' := [(cI, .int)]) [0] rfl)) rfl rfl hl.1 rfl (lv_room (Nat.le_of_ble_eq_true rfl)) dX6_multiply_60 ⟨Nat.le_of_ble_eq_true rfl, Nat.le_of_ble_eq_true rfl⟩) hP hS hA (cells' := 0) (slots' := 0) rfl rfl (fun H locs hP hS => ?_)
  have hR := hR0.at hS
  refine z_ifB_ne (tgt := 70) hx hb dX6_multiply_63 (by decide) (fun c_63 => ?_) (fun c_63 => absurd c_63 (by exact not_not_intro ((zAll_iff _ _).mpr (fun k h1 h2 => decide_eq_true (hwb k h1 (by omega))))))
  refine lv_aload_n hx hb dX6_multiply_70 rfl (lv_at hl 0 rfl) ?_
  refine va_get (D := D) (ci := 5) (C := RX6) (T := TX6) (N := 8) hx hb hts hi6 hown hK hP 0 rfl rfl 1 (by decide) (hts (.fieldLink RX6 13 "ButterflyYardModel" "lengths" "[I") (by decide +kernel)) (fun _ h9 => h9) rfl dX6_multiply_71 ?_
  refine lv_iload_n hx hb dX6_multiply_74 rfl (lv_at hl 1 rfl) ?_
  refine z_iald (cA := cI) (n := 4) (g := xl) hx hb hK hR 1 0 rfl rfl rfl (by omega) dX6_multiply_75 ?_
  refine z_if_eq (tgt := 95) hx hb dX6_multiply_76 (by decide) (by omega) (fun c_76 => absurd c_76 (by omega)) (fun c_76 => ?_)
  refine lv_aload_n hx hb dX6_multiply_79 rfl (lv_at hl 0 rfl) ?_
  refine va_get (D := D) (ci := 5) (C := RX6) (T := TX6) (N := 8) hx hb hts hi6 hown hK hP 0 rfl rfl 1 (by decide) (hts (.fieldLink RX6 13 "ButterflyYardModel" "lengths" "[I") (by decide +kernel)) (fun _ h9 => h9) rfl dX6_multiply_80 ?_
  refine lv_iload_n hx hb dX6_multiply_83 rfl (lv_at hl 2 rfl) ?_
  refine z_iald (cA := cI) (n := 4) (g := xl) hx hb hK hR 1 0 rfl rfl rfl (by omega) dX6_multiply_84 ?_
  refine z_if_eq (tgt := 95) hx hb dX6_multiply_85 (by decide) (by omega) (fun c_85 => ?_) (fun c_85 => absurd c_85 (by omega))
  refine z_iconst hx hb dX6_multiply_95 ?_
  refine lv_goto (tgt := 100) hx hb dX6_multiply_96 (by decide) ?_
  refine va_put (D := D) (ci := 5) (v := .int (zI 3)) (ty := .int) (C := RX6) (T := TX6) (N := 8) hx hb hts hi6 tyX6 tyX6_ok nmX6 hown hK hP hD hS 0 rfl rfl 7 (by decide) (hts (.fieldLink RX6 28 "ButterflyYardModel" "thrown" "I") (by decide +kernel)) (fun _ h9 => h9) rfl (by decide +kernel) rfl rfl (Nat.le_of_ble_eq_true rfl) dX6_multiply_100 (fun H locs hP hD hS => ?_)
  have hP : va_P D vwCl [(h0, .inr (5, [.ref ae, .ref al, .ref ap, .ref az, .ref ar, .int (zI np), .ref am, .int (zI 3)]))] H := hP
  have hD : va_D A [(h0, .inr (5, [.ref ae, .ref al, .ref ap, .ref az, .ref ar, .int (zI np), .ref am, .int (zI 3)]))] := hD
  have hR := hR0.at hS
  refine lv_aload_n hx hb dX6_multiply_103 rfl (lv_at hl 0 rfl) ?_
  refine va_get (D := D) (ci := 5) (C := RX6) (T := TX6) (N := 8) hx hb hts hi6 hown hK hP 0 rfl rfl 7 (by decide) (hts (.fieldLink RX6 28 "ButterflyYardModel" "thrown" "I") (by decide +kernel)) (fun _ h9 => h9) rfl dX6_multiply_104 ?_
  refine z_if_eq (tgt := 112) hx hb dX6_multiply_107 (by decide) (by omega) (fun c_107 => absurd c_107 (by omega)) (fun c_107 => ?_)
  refine z_iconst hx hb dX6_multiply_110 ?_
  exact z_iret hx hb hr hlocks rfl () (rfl) (trivial) hP hD hS dX6_multiply_111

set_option maxHeartbeats 4000000 in
set_option maxRecDepth 100000 in
theorem c_X6_multiply_3c (l : Launch) (D : va_G) (cI : ClassId) (h0 : Nat) (ae : Nat) (al : Nat) (ap : Nat) (az : Nat) (ar : Nat) (am : Nat) (np : Int) (th : Int) (xe : Int → Int) (xl : Int → Int) (a : Int) (b : Int) (t : Int) (ha_a : -2147483648 ≤ a ∧ a ≤ 2147483647) (ha_b : -2147483648 ≤ b ∧ b ≤ 2147483647) (ha_t : -2147483648 ≤ t ∧ t ≤ 2147483647) (hnp_ : 0 ≤ np ∧ np ≤ 8) (hr_a : 0 ≤ a ∧ a < 4) (hr_b : 0 ≤ b ∧ b < 4) (hr_t : 0 ≤ t ∧ t < 4) (hxl_a : 0 ≤ xl a ∧ xl a ≤ 64) (hxl_b : 0 ≤ xl b ∧ xl b ≤ 64) (hxe : ∀ k, 0 ≤ k → k < 256 → -1000000 ≤ xe k ∧ xe k ≤ 1000000) (hwa : ∀ k, 0 ≤ k → k < xl a → 0 ≤ eRow xe a k ∧ eRow xe a k ≤ 9) (hwb : ∀ k, 0 ≤ k → k < xl b → 0 ≤ eRow xe b k ∧ eRow xe b k ≤ 9) (hla : xl a ≠ 0) (hlb : xl b ≠ 0) (hlt : 64 < xl a + xl b) : zC l yX6_multiply wsX6_multiply ({ frames := 1, cells := 0, slots := 0, locals := 25 } : Room) D [(cI, .int)] [(h0, .inr (5, [.ref ae, .ref al, .ref ap, .ref az, .ref ar, .int (zI np), .ref am, .int (zI th)]))] [(ae, .inl (cI, 256, .inl (zA xe))), (al, .inl (cI, 4, .inl (zA xl)))] [.ref h0, .int (zI a), .int (zI b), .int (zI t)] (S := Unit) (fun u => True) (fun u => some (.int (zI 0))) (fun u => [(h0, .inr (5, [.ref ae, .ref al, .ref ap, .ref az, .ref ar, .int (zI np), .ref am, .int (zI 3)]))]) := by
  refine z_start (cc := cX6_multiply) (maxL := 7) (ret := (some .int)) (own := RX6) (by decide) rfl rfl (Nat.le_of_ble_eq_true rfl) [(0, .ref h0), (1, .int (zI a)), (2, .int (zI b)), (3, .int (zI t))] rfl ?_
  intro pp ee s mm below meth cc A H ls hx hb hr hml hts hown hlocks hin hK hA hP hD hS hR0 hR hl
  have CF : CallFix pp mm cc cX6_multiply 7 s ([.ref h0, .int (zI a), .int (zI b), .int (zI t)] : List Value).toArray wsX6_multiply RX6 := ⟨hx, hb, hml, hown, hts⟩
  have hi6 : ∀ w ∈ wsX60, w ∈ wsX6_multiply := by decide +kernel
  refine lv_iload_n hx hb dX6_multiply_0 rfl (lv_at hl 1 rfl) ?_
  have hRc : va_P D vwCl [] H := z_nilP
  refine z_ro (ws := [(h0, .inr (5, [.ref ae, .ref al, .ref ap, .ref az, .ref ar, .int (zI np), .ref am, .int (zI th)]))]) (va_runS (As := [.int (zI a)]) (rest := []) CF (c_X6_isRow l D a (by omega) H.size) (va_cwS 1 hts gX6_multiply_X6_isRow rfl rfl rfl (by decide +kernel) ⟨Nat.le_of_ble_eq_true rfl, Nat.le_of_ble_eq_true rfl⟩) (z_preS z_nilP (z_nilD (A := A)) hRc z_noX (hK.sub (tys' := []) [] rfl)) rfl rfl hl.1 rfl (lv_room (Nat.le_of_ble_eq_true rfl)) dX6_multiply_1 ⟨Nat.le_of_ble_eq_true rfl, Nat.le_of_ble_eq_true rfl⟩) hP hS hA (cells' := 0) (slots' := 0) rfl rfl (fun H locs hP hS => ?_)
  have hR := hR0.at hS
  refine z_ifB_eq (tgt := 21) hx hb dX6_multiply_4 (by decide) (fun c_4 => absurd c_4 (by omega)) (fun c_4 => ?_)
  refine lv_iload_n hx hb dX6_multiply_7 rfl (lv_at hl 2 rfl) ?_
  have hRc : va_P D vwCl [] H := z_nilP
  refine z_ro (ws := [(h0, .inr (5, [.ref ae, .ref al, .ref ap, .ref az, .ref ar, .int (zI np), .ref am, .int (zI th)]))]) (va_runS (As := [.int (zI b)]) (rest := []) CF (c_X6_isRow l D b (by omega) H.size) (va_cwS 1 hts gX6_multiply_X6_isRow rfl rfl rfl (by decide +kernel) ⟨Nat.le_of_ble_eq_true rfl, Nat.le_of_ble_eq_true rfl⟩) (z_preS z_nilP (z_nilD (A := A)) hRc z_noX (hK.sub (tys' := []) [] rfl)) rfl rfl hl.1 rfl (lv_room (Nat.le_of_ble_eq_true rfl)) dX6_multiply_8 ⟨Nat.le_of_ble_eq_true rfl, Nat.le_of_ble_eq_true rfl⟩) hP hS hA (cells' := 0) (slots' := 0) rfl rfl (fun H locs hP hS => ?_)
  have hR := hR0.at hS
  refine z_ifB_eq (tgt := 21) hx hb dX6_multiply_11 (by decide) (fun c_11 => absurd c_11 (by omega)) (fun c_11 => ?_)
  refine lv_iload_n hx hb dX6_multiply_14 rfl (lv_at hl 3 rfl) ?_
  have hRc : va_P D vwCl [] H := z_nilP
  refine z_ro (ws := [(h0, .inr (5, [.ref ae, .ref al, .ref ap, .ref az, .ref ar, .int (zI np), .ref am, .int (zI th)]))]) (va_runS (As := [.int (zI t)]) (rest := []) CF (c_X6_isRow l D t (by omega) H.size) (va_cwS 1 hts gX6_multiply_X6_isRow rfl rfl rfl (by decide +kernel) ⟨Nat.le_of_ble_eq_true rfl, Nat.le_of_ble_eq_true rfl⟩) (z_preS z_nilP (z_nilD (A := A)) hRc z_noX (hK.sub (tys' := []) [] rfl)) rfl rfl hl.1 rfl (lv_room (Nat.le_of_ble_eq_true rfl)) dX6_multiply_15 ⟨Nat.le_of_ble_eq_true rfl, Nat.le_of_ble_eq_true rfl⟩) hP hS hA (cells' := 0) (slots' := 0) rfl rfl (fun H locs hP hS => ?_)
  have hR := hR0.at hS
  refine z_ifB_ne (tgt := 28) hx hb dX6_multiply_18 (by decide) (fun c_18 => ?_) (fun c_18 => absurd c_18 (by omega))
  refine lv_aload_n hx hb dX6_multiply_28 rfl (lv_at hl 0 rfl) ?_
  refine va_get (D := D) (ci := 5) (C := RX6) (T := TX6) (N := 8) hx hb hts hi6 hown hK hP 0 rfl rfl 1 (by decide) (hts (.fieldLink RX6 13 "ButterflyYardModel" "lengths" "[I") (by decide +kernel)) (fun _ h9 => h9) rfl dX6_multiply_29 ?_
  refine lv_iload_n hx hb dX6_multiply_32 rfl (lv_at hl 1 rfl) ?_
  refine z_iald (cA := cI) (n := 4) (g := xl) hx hb hK hR 1 0 rfl rfl rfl (by omega) dX6_multiply_33 ?_
  refine lv_aload_n hx hb dX6_multiply_34 rfl (lv_at hl 0 rfl) ?_
  refine va_get (D := D) (ci := 5) (C := RX6) (T := TX6) (N := 8) hx hb hts hi6 hown hK hP 0 rfl rfl 1 (by decide) (hts (.fieldLink RX6 13 "ButterflyYardModel" "lengths" "[I") (by decide +kernel)) (fun _ h9 => h9) rfl dX6_multiply_35 ?_
  refine lv_iload_n hx hb dX6_multiply_38 rfl (lv_at hl 2 rfl) ?_
  refine z_iald (cA := cI) (n := 4) (g := xl) hx hb hK hR 1 0 rfl rfl rfl (by omega) dX6_multiply_39 ?_
  refine z_iadd hx hb dX6_multiply_40 ?_
  refine lv_istore (lv' := [(4, .int (zI ((xl a) + (xl b)))), (0, .ref h0), (1, .int (zI a)), (2, .int (zI b)), (3, .int (zI t))]) hx hb dX6_multiply_41 hl (by decide) rfl (fun ls hl => ?_)
  have hl := lv_sub hl [1, 2, 3, 4, 0] rfl
  have hl : lv_has ls 7 [(0, .ref h0), (1, .int (zI a)), (2, .int (zI b)), (3, .int (zI t)), (4, .int (zI ((xl a) + (xl b))))] := hl
  refine lv_aload_n hx hb dX6_multiply_43 rfl (lv_at hl 0 rfl) ?_
  refine lv_aload_n hx hb dX6_multiply_44 rfl (lv_at hl 0 rfl) ?_
  refine lv_iload_n hx hb dX6_multiply_45 rfl (lv_at hl 1 rfl) ?_
  refine z_iconst hx hb dX6_multiply_46 ?_
  refine z_bipush hx hb dX6_multiply_47 (by decide) ?_
  have hRc := z_subR (ws := [(h0, .inr (5, [.ref ae, .ref al, .ref ap, .ref az, .ref ar, .int (zI np), .ref am, .int (zI th)]))]) (rs := [(ae, .inl (cI, 256, .inl (zA xe))), (al, .inl (cI, 4, .inl (zA xl)))]) (rc := [(h0, .inr (5, [.ref ae, .ref al, .ref ap, .ref az, .ref ar, .int (zI np), .ref am, .int (zI th)])), (ae, .inl (cI, 256, .inl (zA xe))), (al, .inl (cI, 4, .inl (zA xl)))]) hP hR (isR := [0, 1, 2]) rfl
  refine z_ro (ws := [(h0, .inr (5, [.ref ae, .ref al, .ref ap, .ref az, .ref ar, .int (zI np), .ref am, .int (zI th)]))]) (va_runV (As := [.int (zI a), .int (zI 0), .int (zI 9)]) (rest := [.ref h0]) CF (c_X6_isWithin l D cI h0 ae al ap az ar am np th xe xl a 0 9 (by omega) (by omega) (by exact hxe) (by omega) (by omega) H.size) (cwV 3 hts gX6_multiply_X6_isWithin rfl rfl rfl (by decide +kernel) ⟨Nat.le_of_ble_eq_true rfl, Nat.le_of_ble_eq_true rfl⟩) (z_preV (va_recv hK hP (ci := 5) (q0 := 0) rfl rfl) z_nilP (z_nilD (A := A)) hRc z_noX (hK.sub (tys' := [(cI, .int)]) [0] rfl)) rfl rfl hl.1 rfl (lv_room (Nat.le_of_ble_eq_true rfl)) dX6_multiply_49 ⟨Nat.le_of_ble_eq_true rfl, Nat.le_of_ble_eq_true rfl⟩) hP hS hA (cells' := 0) (slots' := 0) rfl rfl (fun H locs hP hS => ?_)
  have hR := hR0.at hS
  refine z_ifB_eq (tgt := 66) hx hb dX6_multiply_52 (by decide) (fun c_52 => absurd c_52 (by exact not_not_intro ((zAll_iff _ _).mpr (fun k h1 h2 => decide_eq_true (hwa k h1 (by omega)))))) (fun c_52 => ?_)
  refine lv_aload_n hx hb dX6_multiply_55 rfl (lv_at hl 0 rfl) ?_
  refine lv_iload_n hx hb dX6_multiply_56 rfl (lv_at hl 2 rfl) ?_
  refine z_iconst hx hb dX6_multiply_57 ?_
  refine z_bipush hx hb dX6_multiply_58 (by decide) ?_
  have hRc := z_subR (ws := [(h0, .inr (5, [.ref ae, .ref al, .ref ap, .ref az, .ref ar, .int (zI np), .ref am, .int (zI th)]))]) (rs := [(ae, .inl (cI, 256, .inl (zA xe))), (al, .inl (cI, 4, .inl (zA xl)))]) (rc := [(h0, .inr (5, [.ref ae, .ref al, .ref ap, .ref az, .ref ar, .int (zI np), .ref am, .int (zI th)])), (ae, .inl (cI, 256, .inl (zA xe))), (al, .inl (cI, 4, .inl (zA xl)))]) hP hR (isR := [0, 1, 2]) rfl
  refine z_ro (ws := [(h0, .inr (5, [.ref ae, .ref al, .ref ap, .ref az, .ref ar, .int (zI np), .ref am, .int (zI th)]))]) (va_runV (As := [.int (zI b), .int (zI 0), .int (zI 9)]) (rest := [.ref h0]) CF (c_X6_isWithin l D cI h0 ae al ap az ar am np th xe xl b 0 9 (by omega) (by omega) (by exact hxe) (by omega) (by omega) H.size) (cwV 3 hts gX6_multiply_X6_isWithin rfl rfl rfl (by decide +kernel) ⟨Nat.le_of_ble_eq_true rfl, Nat.le_of_ble_eq_true rfl⟩) (z_preV (va_recv hK hP (ci := 5) (q0 := 0) rfl rfl) z_nilP (z_nilD (A := A)) hRc z_noX (hK.sub (tys' := [(cI, .int)]) [0] rfl)) rfl rfl hl.1 rfl (lv_room (Nat.le_of_ble_eq_true rfl)) dX6_multiply_60 ⟨Nat.le_of_ble_eq_true rfl, Nat.le_of_ble_eq_true rfl⟩) hP hS hA (cells' := 0) (slots' := 0) rfl rfl (fun H locs hP hS => ?_)
  have hR := hR0.at hS
  refine z_ifB_ne (tgt := 70) hx hb dX6_multiply_63 (by decide) (fun c_63 => ?_) (fun c_63 => absurd c_63 (by exact not_not_intro ((zAll_iff _ _).mpr (fun k h1 h2 => decide_eq_true (hwb k h1 (by omega))))))
  refine lv_aload_n hx hb dX6_multiply_70 rfl (lv_at hl 0 rfl) ?_
  refine va_get (D := D) (ci := 5) (C := RX6) (T := TX6) (N := 8) hx hb hts hi6 hown hK hP 0 rfl rfl 1 (by decide) (hts (.fieldLink RX6 13 "ButterflyYardModel" "lengths" "[I") (by decide +kernel)) (fun _ h9 => h9) rfl dX6_multiply_71 ?_
  refine lv_iload_n hx hb dX6_multiply_74 rfl (lv_at hl 1 rfl) ?_
  refine z_iald (cA := cI) (n := 4) (g := xl) hx hb hK hR 1 0 rfl rfl rfl (by omega) dX6_multiply_75 ?_
  refine z_if_eq (tgt := 95) hx hb dX6_multiply_76 (by decide) (by omega) (fun c_76 => absurd c_76 (by omega)) (fun c_76 => ?_)
  refine lv_aload_n hx hb dX6_multiply_79 rfl (lv_at hl 0 rfl) ?_
  refine va_get (D := D) (ci := 5) (C := RX6) (T := TX6) (N := 8) hx hb hts hi6 hown hK hP 0 rfl rfl 1 (by decide) (hts (.fieldLink RX6 13 "ButterflyYardModel" "lengths" "[I") (by decide +kernel)) (fun _ h9 => h9) rfl dX6_multiply_80 ?_
  refine lv_iload_n hx hb dX6_multiply_83 rfl (lv_at hl 2 rfl) ?_
  refine z_iald (cA := cI) (n := 4) (g := xl) hx hb hK hR 1 0 rfl rfl rfl (by omega) dX6_multiply_84 ?_
  refine z_if_eq (tgt := 95) hx hb dX6_multiply_85 (by decide) (by omega) (fun c_85 => absurd c_85 (by omega)) (fun c_85 => ?_)
  refine lv_iload hx hb dX6_multiply_88 (lv_at hl 4 rfl) ?_
  refine z_bipush hx hb dX6_multiply_90 (by decide) ?_
  refine z_icmp_le (tgt := 99) hx hb dX6_multiply_92 (by decide) (by omega) (fun c_92 => absurd c_92 (by omega)) (fun c_92 => ?_)
  refine z_iconst hx hb dX6_multiply_95 ?_
  refine lv_goto (tgt := 100) hx hb dX6_multiply_96 (by decide) ?_
  refine va_put (D := D) (ci := 5) (v := .int (zI 3)) (ty := .int) (C := RX6) (T := TX6) (N := 8) hx hb hts hi6 tyX6 tyX6_ok nmX6 hown hK hP hD hS 0 rfl rfl 7 (by decide) (hts (.fieldLink RX6 28 "ButterflyYardModel" "thrown" "I") (by decide +kernel)) (fun _ h9 => h9) rfl (by decide +kernel) rfl rfl (Nat.le_of_ble_eq_true rfl) dX6_multiply_100 (fun H locs hP hD hS => ?_)
  have hP : va_P D vwCl [(h0, .inr (5, [.ref ae, .ref al, .ref ap, .ref az, .ref ar, .int (zI np), .ref am, .int (zI 3)]))] H := hP
  have hD : va_D A [(h0, .inr (5, [.ref ae, .ref al, .ref ap, .ref az, .ref ar, .int (zI np), .ref am, .int (zI 3)]))] := hD
  have hR := hR0.at hS
  refine lv_aload_n hx hb dX6_multiply_103 rfl (lv_at hl 0 rfl) ?_
  refine va_get (D := D) (ci := 5) (C := RX6) (T := TX6) (N := 8) hx hb hts hi6 hown hK hP 0 rfl rfl 7 (by decide) (hts (.fieldLink RX6 28 "ButterflyYardModel" "thrown" "I") (by decide +kernel)) (fun _ h9 => h9) rfl dX6_multiply_104 ?_
  refine z_if_eq (tgt := 112) hx hb dX6_multiply_107 (by decide) (by omega) (fun c_107 => absurd c_107 (by omega)) (fun c_107 => ?_)
  refine z_iconst hx hb dX6_multiply_110 ?_
  exact z_iret hx hb hr hlocks rfl () (rfl) (trivial) hP hD hS dX6_multiply_111

set_option maxHeartbeats 4000000 in
set_option maxRecDepth 100000 in
theorem c_X6_multiply_ok (l : Launch) (D : va_G) (cI : ClassId) (h0 : Nat) (ae : Nat) (al : Nat) (ap : Nat) (az : Nat) (ar : Nat) (am : Nat) (np : Int) (th : Int) (xe : Int → Int) (xl : Int → Int) (xm : Int → Int) (a : Int) (b : Int) (t : Int) (ha_a : -2147483648 ≤ a ∧ a ≤ 2147483647) (ha_b : -2147483648 ≤ b ∧ b ≤ 2147483647) (ha_t : -2147483648 ≤ t ∧ t ≤ 2147483647) (hnp_ : 0 ≤ np ∧ np ≤ 8) (hr_a : 0 ≤ a ∧ a < 4) (hr_b : 0 ≤ b ∧ b < 4) (hr_t : 0 ≤ t ∧ t < 4) (hxl_a : 0 ≤ xl a ∧ xl a ≤ 64) (hxl_b : 0 ≤ xl b ∧ xl b ≤ 64) (hxe : ∀ k, 0 ≤ k → k < 256 → -1000000 ≤ xe k ∧ xe k ≤ 1000000) (hwa : ∀ k, 0 ≤ k → k < xl a → 0 ≤ eRow xe a k ∧ eRow xe a k ≤ 9) (hwb : ∀ k, 0 ≤ k → k < xl b → 0 ≤ eRow xe b k ∧ eRow xe b k ≤ 9) (hla : xl a ≠ 0) (hlb : xl b ≠ 0) (hlt : xl a + xl b ≤ 64) : zC l yX6_multiply wsX6_multiply ({ frames := 1, cells := 0, slots := 0, locals := 26 } : Room) D [(cI, .int)] [(h0, .inr (5, [.ref ae, .ref al, .ref ap, .ref az, .ref ar, .int (zI np), .ref am, .int (zI th)])), (ae, .inl (cI, 256, .inl (zA xe))), (al, .inl (cI, 4, .inl (zA xl))), (am, .inl (cI, 64, .inl (zA xm)))] [] [.ref h0, .int (zI a), .int (zI b), .int (zI t)] (S := (Int → Int) × (Int → Int)) (fun (xe2, xm2) => (∀ k, 0 ≤ k → k < ndI (lin (eRow xe a) (xl a) (eRow xe b) (xl b)) (xl a + xl b) → xe2 (64 * t + k) = dgI (lin (eRow xe a) (xl a) (eRow xe b) (xl b)) k) ∧ (∀ x, x < 64 * t ∨ 64 * t + ndI (lin (eRow xe a) (xl a) (eRow xe b) (xl b)) (xl a + xl b) ≤ x → xe2 x = xe x)) (fun (xe2, xm2) => some (.int (zI (ndI (lin (eRow xe a) (xl a) (eRow xe b) (xl b)) (xl a + xl b))))) (fun (xe2, xm2) => [(h0, .inr (5, [.ref ae, .ref al, .ref ap, .ref az, .ref ar, .int (zI np), .ref am, .int (zI 0)])), (ae, .inl (cI, 256, .inl (zA xe2))), (al, .inl (cI, 4, .inl (zA (zU xl t (ndI (lin (eRow xe a) (xl a) (eRow xe b) (xl b)) (xl a + xl b)))))), (am, .inl (cI, 64, .inl (zA xm2)))]) := by
  have hLn : ∀ k, 0 ≤ k → 0 ≤ (lin (eRow xe a) (xl a) (eRow xe b) (xl b)) k ∧ (lin (eRow xe a) (xl a) (eRow xe b) (xl b)) k ≤ 5184 := fun k _ => lin_nn (by omega) hwa hwb
  have hnd := ndI_rng (L := (lin (eRow xe a) (xl a) (eRow xe b) (xl b))) (xl a + xl b) (by omega)
  refine z_start (cc := cX6_multiply) (maxL := 7) (ret := (some .int)) (own := RX6) (by decide) rfl rfl (Nat.le_of_ble_eq_true rfl) [(0, .ref h0), (1, .int (zI a)), (2, .int (zI b)), (3, .int (zI t))] rfl ?_
  intro pp ee s mm below meth cc A H ls hx hb hr hml hts hown hlocks hin hK hA hP hD hS hR0 hR hl
  have CF : CallFix pp mm cc cX6_multiply 7 s ([.ref h0, .int (zI a), .int (zI b), .int (zI t)] : List Value).toArray wsX6_multiply RX6 := ⟨hx, hb, hml, hown, hts⟩
  have hi6 : ∀ w ∈ wsX60, w ∈ wsX6_multiply := by decide +kernel
  refine lv_iload_n hx hb dX6_multiply_0 rfl (lv_at hl 1 rfl) ?_
  have hRc : va_P D vwCl [] H := z_nilP
  refine z_ro (ws := [(h0, .inr (5, [.ref ae, .ref al, .ref ap, .ref az, .ref ar, .int (zI np), .ref am, .int (zI th)])), (ae, .inl (cI, 256, .inl (zA xe))), (al, .inl (cI, 4, .inl (zA xl))), (am, .inl (cI, 64, .inl (zA xm)))]) (va_runS (As := [.int (zI a)]) (rest := []) CF (c_X6_isRow l D a (by omega) H.size) (va_cwS 1 hts gX6_multiply_X6_isRow rfl rfl rfl (by decide +kernel) ⟨Nat.le_of_ble_eq_true rfl, Nat.le_of_ble_eq_true rfl⟩) (z_preS z_nilP (z_nilD (A := A)) hRc z_noX (hK.sub (tys' := []) [] rfl)) rfl rfl hl.1 rfl (lv_room (Nat.le_of_ble_eq_true rfl)) dX6_multiply_1 ⟨Nat.le_of_ble_eq_true rfl, Nat.le_of_ble_eq_true rfl⟩) hP hS hA (cells' := 0) (slots' := 0) rfl rfl (fun H locs hP hS => ?_)
  refine z_ifB_eq (tgt := 21) hx hb dX6_multiply_4 (by decide) (fun c_4 => absurd c_4 (by omega)) (fun c_4 => ?_)
  refine lv_iload_n hx hb dX6_multiply_7 rfl (lv_at hl 2 rfl) ?_
  have hRc : va_P D vwCl [] H := z_nilP
  refine z_ro (ws := [(h0, .inr (5, [.ref ae, .ref al, .ref ap, .ref az, .ref ar, .int (zI np), .ref am, .int (zI th)])), (ae, .inl (cI, 256, .inl (zA xe))), (al, .inl (cI, 4, .inl (zA xl))), (am, .inl (cI, 64, .inl (zA xm)))]) (va_runS (As := [.int (zI b)]) (rest := []) CF (c_X6_isRow l D b (by omega) H.size) (va_cwS 1 hts gX6_multiply_X6_isRow rfl rfl rfl (by decide +kernel) ⟨Nat.le_of_ble_eq_true rfl, Nat.le_of_ble_eq_true rfl⟩) (z_preS z_nilP (z_nilD (A := A)) hRc z_noX (hK.sub (tys' := []) [] rfl)) rfl rfl hl.1 rfl (lv_room (Nat.le_of_ble_eq_true rfl)) dX6_multiply_8 ⟨Nat.le_of_ble_eq_true rfl, Nat.le_of_ble_eq_true rfl⟩) hP hS hA (cells' := 0) (slots' := 0) rfl rfl (fun H locs hP hS => ?_)
  refine z_ifB_eq (tgt := 21) hx hb dX6_multiply_11 (by decide) (fun c_11 => absurd c_11 (by omega)) (fun c_11 => ?_)
  refine lv_iload_n hx hb dX6_multiply_14 rfl (lv_at hl 3 rfl) ?_
  have hRc : va_P D vwCl [] H := z_nilP
  refine z_ro (ws := [(h0, .inr (5, [.ref ae, .ref al, .ref ap, .ref az, .ref ar, .int (zI np), .ref am, .int (zI th)])), (ae, .inl (cI, 256, .inl (zA xe))), (al, .inl (cI, 4, .inl (zA xl))), (am, .inl (cI, 64, .inl (zA xm)))]) (va_runS (As := [.int (zI t)]) (rest := []) CF (c_X6_isRow l D t (by omega) H.size) (va_cwS 1 hts gX6_multiply_X6_isRow rfl rfl rfl (by decide +kernel) ⟨Nat.le_of_ble_eq_true rfl, Nat.le_of_ble_eq_true rfl⟩) (z_preS z_nilP (z_nilD (A := A)) hRc z_noX (hK.sub (tys' := []) [] rfl)) rfl rfl hl.1 rfl (lv_room (Nat.le_of_ble_eq_true rfl)) dX6_multiply_15 ⟨Nat.le_of_ble_eq_true rfl, Nat.le_of_ble_eq_true rfl⟩) hP hS hA (cells' := 0) (slots' := 0) rfl rfl (fun H locs hP hS => ?_)
  refine z_ifB_ne (tgt := 28) hx hb dX6_multiply_18 (by decide) (fun c_18 => ?_) (fun c_18 => absurd c_18 (by omega))
  refine lv_aload_n hx hb dX6_multiply_28 rfl (lv_at hl 0 rfl) ?_
  refine va_get (D := D) (ci := 5) (C := RX6) (T := TX6) (N := 8) hx hb hts hi6 hown hK hP 0 rfl rfl 1 (by decide) (hts (.fieldLink RX6 13 "ButterflyYardModel" "lengths" "[I") (by decide +kernel)) (fun _ h9 => h9) rfl dX6_multiply_29 ?_
  refine lv_iload_n hx hb dX6_multiply_32 rfl (lv_at hl 1 rfl) ?_
  refine z_iald (cA := cI) (n := 4) (g := xl) hx hb hK hP 2 0 rfl rfl rfl (by omega) dX6_multiply_33 ?_
  refine lv_aload_n hx hb dX6_multiply_34 rfl (lv_at hl 0 rfl) ?_
  refine va_get (D := D) (ci := 5) (C := RX6) (T := TX6) (N := 8) hx hb hts hi6 hown hK hP 0 rfl rfl 1 (by decide) (hts (.fieldLink RX6 13 "ButterflyYardModel" "lengths" "[I") (by decide +kernel)) (fun _ h9 => h9) rfl dX6_multiply_35 ?_
  refine lv_iload_n hx hb dX6_multiply_38 rfl (lv_at hl 2 rfl) ?_
  refine z_iald (cA := cI) (n := 4) (g := xl) hx hb hK hP 2 0 rfl rfl rfl (by omega) dX6_multiply_39 ?_
  refine z_iadd hx hb dX6_multiply_40 ?_
  refine lv_istore (lv' := [(4, .int (zI ((xl a) + (xl b)))), (0, .ref h0), (1, .int (zI a)), (2, .int (zI b)), (3, .int (zI t))]) hx hb dX6_multiply_41 hl (by decide) rfl (fun ls hl => ?_)
  have hl := lv_sub hl [1, 2, 3, 4, 0] rfl
  have hl : lv_has ls 7 [(0, .ref h0), (1, .int (zI a)), (2, .int (zI b)), (3, .int (zI t)), (4, .int (zI ((xl a) + (xl b))))] := hl
  refine lv_aload_n hx hb dX6_multiply_43 rfl (lv_at hl 0 rfl) ?_
  refine lv_aload_n hx hb dX6_multiply_44 rfl (lv_at hl 0 rfl) ?_
  refine lv_iload_n hx hb dX6_multiply_45 rfl (lv_at hl 1 rfl) ?_
  refine z_iconst hx hb dX6_multiply_46 ?_
  refine z_bipush hx hb dX6_multiply_47 (by decide) ?_
  have hRc := z_subR (ws := [(h0, .inr (5, [.ref ae, .ref al, .ref ap, .ref az, .ref ar, .int (zI np), .ref am, .int (zI th)])), (ae, .inl (cI, 256, .inl (zA xe))), (al, .inl (cI, 4, .inl (zA xl))), (am, .inl (cI, 64, .inl (zA xm)))]) (rs := []) (rc := [(h0, .inr (5, [.ref ae, .ref al, .ref ap, .ref az, .ref ar, .int (zI np), .ref am, .int (zI th)])), (ae, .inl (cI, 256, .inl (zA xe))), (al, .inl (cI, 4, .inl (zA xl)))]) hP z_nilP (isR := [0, 1, 2]) rfl
  refine z_ro (ws := [(h0, .inr (5, [.ref ae, .ref al, .ref ap, .ref az, .ref ar, .int (zI np), .ref am, .int (zI th)])), (ae, .inl (cI, 256, .inl (zA xe))), (al, .inl (cI, 4, .inl (zA xl))), (am, .inl (cI, 64, .inl (zA xm)))]) (va_runV (As := [.int (zI a), .int (zI 0), .int (zI 9)]) (rest := [.ref h0]) CF (c_X6_isWithin l D cI h0 ae al ap az ar am np th xe xl a 0 9 (by omega) (by omega) (by exact hxe) (by omega) (by omega) H.size) (cwV 3 hts gX6_multiply_X6_isWithin rfl rfl rfl (by decide +kernel) ⟨Nat.le_of_ble_eq_true rfl, Nat.le_of_ble_eq_true rfl⟩) (z_preV (va_recv hK hP (ci := 5) (q0 := 0) rfl rfl) z_nilP (z_nilD (A := A)) hRc z_noX (hK.sub (tys' := [(cI, .int)]) [0] rfl)) rfl rfl hl.1 rfl (lv_room (Nat.le_of_ble_eq_true rfl)) dX6_multiply_49 ⟨Nat.le_of_ble_eq_true rfl, Nat.le_of_ble_eq_true rfl⟩) hP hS hA (cells' := 0) (slots' := 0) rfl rfl (fun H locs hP hS => ?_)
  refine z_ifB_eq (tgt := 66) hx hb dX6_multiply_52 (by decide) (fun c_52 => absurd c_52 (by exact not_not_intro ((zAll_iff _ _).mpr (fun k h1 h2 => decide_eq_true (hwa k h1 (by omega)))))) (fun c_52 => ?_)
  refine lv_aload_n hx hb dX6_multiply_55 rfl (lv_at hl 0 rfl) ?_
  refine lv_iload_n hx hb dX6_multiply_56 rfl (lv_at hl 2 rfl) ?_
  refine z_iconst hx hb dX6_multiply_57 ?_
  refine z_bipush hx hb dX6_multiply_58 (by decide) ?_
  have hRc := z_subR (ws := [(h0, .inr (5, [.ref ae, .ref al, .ref ap, .ref az, .ref ar, .int (zI np), .ref am, .int (zI th)])), (ae, .inl (cI, 256, .inl (zA xe))), (al, .inl (cI, 4, .inl (zA xl))), (am, .inl (cI, 64, .inl (zA xm)))]) (rs := []) (rc := [(h0, .inr (5, [.ref ae, .ref al, .ref ap, .ref az, .ref ar, .int (zI np), .ref am, .int (zI th)])), (ae, .inl (cI, 256, .inl (zA xe))), (al, .inl (cI, 4, .inl (zA xl)))]) hP z_nilP (isR := [0, 1, 2]) rfl
  refine z_ro (ws := [(h0, .inr (5, [.ref ae, .ref al, .ref ap, .ref az, .ref ar, .int (zI np), .ref am, .int (zI th)])), (ae, .inl (cI, 256, .inl (zA xe))), (al, .inl (cI, 4, .inl (zA xl))), (am, .inl (cI, 64, .inl (zA xm)))]) (va_runV (As := [.int (zI b), .int (zI 0), .int (zI 9)]) (rest := [.ref h0]) CF (c_X6_isWithin l D cI h0 ae al ap az ar am np th xe xl b 0 9 (by omega) (by omega) (by exact hxe) (by omega) (by omega) H.size) (cwV 3 hts gX6_multiply_X6_isWithin rfl rfl rfl (by decide +kernel) ⟨Nat.le_of_ble_eq_true rfl, Nat.le_of_ble_eq_true rfl⟩) (z_preV (va_recv hK hP (ci := 5) (q0 := 0) rfl rfl) z_nilP (z_nilD (A := A)) hRc z_noX (hK.sub (tys' := [(cI, .int)]) [0] rfl)) rfl rfl hl.1 rfl (lv_room (Nat.le_of_ble_eq_true rfl)) dX6_multiply_60 ⟨Nat.le_of_ble_eq_true rfl, Nat.le_of_ble_eq_true rfl⟩) hP hS hA (cells' := 0) (slots' := 0) rfl rfl (fun H locs hP hS => ?_)
  refine z_ifB_ne (tgt := 70) hx hb dX6_multiply_63 (by decide) (fun c_63 => ?_) (fun c_63 => absurd c_63 (by exact not_not_intro ((zAll_iff _ _).mpr (fun k h1 h2 => decide_eq_true (hwb k h1 (by omega))))))
  refine lv_aload_n hx hb dX6_multiply_70 rfl (lv_at hl 0 rfl) ?_
  refine va_get (D := D) (ci := 5) (C := RX6) (T := TX6) (N := 8) hx hb hts hi6 hown hK hP 0 rfl rfl 1 (by decide) (hts (.fieldLink RX6 13 "ButterflyYardModel" "lengths" "[I") (by decide +kernel)) (fun _ h9 => h9) rfl dX6_multiply_71 ?_
  refine lv_iload_n hx hb dX6_multiply_74 rfl (lv_at hl 1 rfl) ?_
  refine z_iald (cA := cI) (n := 4) (g := xl) hx hb hK hP 2 0 rfl rfl rfl (by omega) dX6_multiply_75 ?_
  refine z_if_eq (tgt := 95) hx hb dX6_multiply_76 (by decide) (by omega) (fun c_76 => absurd c_76 (by omega)) (fun c_76 => ?_)
  refine lv_aload_n hx hb dX6_multiply_79 rfl (lv_at hl 0 rfl) ?_
  refine va_get (D := D) (ci := 5) (C := RX6) (T := TX6) (N := 8) hx hb hts hi6 hown hK hP 0 rfl rfl 1 (by decide) (hts (.fieldLink RX6 13 "ButterflyYardModel" "lengths" "[I") (by decide +kernel)) (fun _ h9 => h9) rfl dX6_multiply_80 ?_
  refine lv_iload_n hx hb dX6_multiply_83 rfl (lv_at hl 2 rfl) ?_
  refine z_iald (cA := cI) (n := 4) (g := xl) hx hb hK hP 2 0 rfl rfl rfl (by omega) dX6_multiply_84 ?_
  refine z_if_eq (tgt := 95) hx hb dX6_multiply_85 (by decide) (by omega) (fun c_85 => absurd c_85 (by omega)) (fun c_85 => ?_)
  refine lv_iload hx hb dX6_multiply_88 (lv_at hl 4 rfl) ?_
  refine z_bipush hx hb dX6_multiply_90 (by decide) ?_
  refine z_icmp_le (tgt := 99) hx hb dX6_multiply_92 (by decide) (by omega) (fun c_92 => ?_) (fun c_92 => absurd c_92 (by omega))
  refine z_iconst hx hb dX6_multiply_99 ?_
  refine va_put (D := D) (ci := 5) (v := .int (zI 0)) (ty := .int) (C := RX6) (T := TX6) (N := 8) hx hb hts hi6 tyX6 tyX6_ok nmX6 hown hK hP hD hS 0 rfl rfl 7 (by decide) (hts (.fieldLink RX6 28 "ButterflyYardModel" "thrown" "I") (by decide +kernel)) (fun _ h9 => h9) rfl (by decide +kernel) rfl rfl (Nat.le_of_ble_eq_true rfl) dX6_multiply_100 (fun H locs hP hD hS => ?_)
  have hP : va_P D vwCl [(h0, .inr (5, [.ref ae, .ref al, .ref ap, .ref az, .ref ar, .int (zI np), .ref am, .int (zI 0)])), (ae, .inl (cI, 256, .inl (zA xe))), (al, .inl (cI, 4, .inl (zA xl))), (am, .inl (cI, 64, .inl (zA xm)))] H := hP
  have hD : va_D A [(h0, .inr (5, [.ref ae, .ref al, .ref ap, .ref az, .ref ar, .int (zI np), .ref am, .int (zI 0)])), (ae, .inl (cI, 256, .inl (zA xe))), (al, .inl (cI, 4, .inl (zA xl))), (am, .inl (cI, 64, .inl (zA xm)))] := hD
  refine lv_aload_n hx hb dX6_multiply_103 rfl (lv_at hl 0 rfl) ?_
  refine va_get (D := D) (ci := 5) (C := RX6) (T := TX6) (N := 8) hx hb hts hi6 hown hK hP 0 rfl rfl 7 (by decide) (hts (.fieldLink RX6 28 "ButterflyYardModel" "thrown" "I") (by decide +kernel)) (fun _ h9 => h9) rfl dX6_multiply_104 ?_
  refine z_if_eq (tgt := 112) hx hb dX6_multiply_107 (by decide) (by omega) (fun c_107 => ?_) (fun c_107 => absurd c_107 (by omega))
  refine z_iconst hx hb dX6_multiply_112 ?_
  refine lv_istore (lv' := [(5, .int (zI 0)), (0, .ref h0), (1, .int (zI a)), (2, .int (zI b)), (3, .int (zI t)), (4, .int (zI ((xl a) + (xl b))))]) hx hb dX6_multiply_113 hl (by decide) rfl (fun ls hl => ?_)
  have hl := lv_sub hl [1, 2, 3, 4, 5, 0] rfl
  have hl : lv_has ls 7 [(0, .ref h0), (1, .int (zI a)), (2, .int (zI b)), (3, .int (zI t)), (4, .int (zI ((xl a) + (xl b)))), (5, .int (zI 0))] := hl
  refine z_iconst hx hb dX6_multiply_115 ?_
  refine lv_istore (lv' := [(6, .int (zI 0)), (0, .ref h0), (1, .int (zI a)), (2, .int (zI b)), (3, .int (zI t)), (4, .int (zI ((xl a) + (xl b)))), (5, .int (zI 0))]) hx hb dX6_multiply_116 hl (by decide) rfl (fun ls hl => ?_)
  have hl := lv_sub hl [1, 2, 3, 4, 5, 6, 0] rfl
  have hl : lv_has ls 7 [(0, .ref h0), (1, .int (zI a)), (2, .int (zI b)), (3, .int (zI t)), (4, .int (zI ((xl a) + (xl b)))), (5, .int (zI 0)), (6, .int (zI 0))] := hl
  refine z_loop (σ := Int × Int × (Int → Int)) (fun (cy, k, xm2) => (xl a + xl b - k).toNat) (fun (cy, k, xm2) H locs ls => (0 ≤ k ∧ k ≤ xl a + xl b) ∧ cy = cyI (lin (eRow xe a) (xl a) (eRow xe b) (xl b)) k ∧ (∀ y, 0 ≤ y → y < k → xm2 y = dgI (lin (eRow xe a) (xl a) (eRow xe b) (xl b)) y) ∧ va_P D vwCl [(h0, .inr (5, [.ref ae, .ref al, .ref ap, .ref az, .ref ar, .int (zI np), .ref am, .int (zI 0)])), (ae, .inl (cI, 256, .inl (zA xe))), (al, .inl (cI, 4, .inl (zA xl))), (am, .inl (cI, 64, .inl (zA xm2)))] H ∧ va_D A [(h0, .inr (5, [.ref ae, .ref al, .ref ap, .ref az, .ref ar, .int (zI np), .ref am, .int (zI 0)])), (ae, .inl (cI, 256, .inl (zA xe))), (al, .inl (cI, 4, .inl (zA xl))), (am, .inl (cI, 64, .inl (zA xm2)))] ∧ va_S A s.heap H locs ∧ lv_has ls 7 [(0, .ref h0), (1, .int (zI a)), (2, .int (zI b)), (3, .int (zI t)), (4, .int (zI ((xl a) + (xl b)))), (5, .int (zI cy)), (6, .int (zI k))]) (0, 0, xm) ⟨(by omega), (by rfl), (fun k h1 h2 => absurd h2 (by omega)), hP, hD, hS, hl⟩ ?_
  intro ⟨cy, k, xm2⟩ H locs ls hI ih_118
  obtain ⟨hk_, hcy, hm_, hP, hD, hS, hl⟩ := hI
  have hci := cyI_rng hLn k (by omega)
  rw [← hcy] at hci
  have hli := hLn k (by omega)
  refine lv_iload hx hb dX6_multiply_118 (lv_at hl 6 rfl) ?_
  refine lv_iload hx hb dX6_multiply_120 (lv_at hl 4 rfl) ?_
  refine z_icmp_ge (tgt := 163) hx hb dX6_multiply_122 (by decide) (by omega) (fun c_122 => ?_) (fun c_122 => ?_)
  · refine z_loop (σ := Int) (fun d => d.toNat) (fun d H locs ls => (1 ≤ d ∧ d ≤ xl a + xl b) ∧ ndI (lin (eRow xe a) (xl a) (eRow xe b) (xl b)) (xl a + xl b) = ndI (lin (eRow xe a) (xl a) (eRow xe b) (xl b)) d ∧ va_P D vwCl [(h0, .inr (5, [.ref ae, .ref al, .ref ap, .ref az, .ref ar, .int (zI np), .ref am, .int (zI 0)])), (ae, .inl (cI, 256, .inl (zA xe))), (al, .inl (cI, 4, .inl (zA xl))), (am, .inl (cI, 64, .inl (zA xm2)))] H ∧ va_D A [(h0, .inr (5, [.ref ae, .ref al, .ref ap, .ref az, .ref ar, .int (zI np), .ref am, .int (zI 0)])), (ae, .inl (cI, 256, .inl (zA xe))), (al, .inl (cI, 4, .inl (zA xl))), (am, .inl (cI, 64, .inl (zA xm2)))] ∧ va_S A s.heap H locs ∧ lv_has ls 7 [(0, .ref h0), (1, .int (zI a)), (2, .int (zI b)), (3, .int (zI t)), (4, .int (zI d)), (5, .int (zI cy)), (6, .int (zI k))]) ((xl a) + (xl b)) ⟨(by omega), (by rfl), hP, hD, hS, hl⟩ ?_
    intro d H locs ls hI ih_163
    obtain ⟨hd_, hn_, hP, hD, hS, hl⟩ := hI
    refine lv_iload hx hb dX6_multiply_163 (lv_at hl 4 rfl) ?_
    refine z_iconst hx hb dX6_multiply_165 ?_
    refine z_icmp_le (tgt := 187) hx hb dX6_multiply_166 (by decide) (by omega) (fun c_166 => ?_) (fun c_166 => ?_)
    · refine lv_aload_n hx hb dX6_multiply_187 rfl (lv_at hl 0 rfl) ?_
      refine lv_iload_n hx hb dX6_multiply_188 rfl (lv_at hl 3 rfl) ?_
      refine lv_iload hx hb dX6_multiply_189 (lv_at hl 4 rfl) ?_
      have hRc := z_subR (ws := [(h0, .inr (5, [.ref ae, .ref al, .ref ap, .ref az, .ref ar, .int (zI np), .ref am, .int (zI 0)])), (ae, .inl (cI, 256, .inl (zA xe))), (al, .inl (cI, 4, .inl (zA xl))), (am, .inl (cI, 64, .inl (zA xm2)))]) (rs := []) (rc := [(h0, .inr (5, [.ref ae, .ref al, .ref ap, .ref az, .ref ar, .int (zI np), .ref am, .int (zI 0)])), (am, .inl (cI, 64, .inl (zA xm2)))]) hP z_nilP (isR := [0, 3]) rfl
      have hPc := hP.sub (ws' := [(ae, .inl (cI, 256, .inl (zA xe))), (al, .inl (cI, 4, .inl (zA xl)))]) [1, 2] rfl
      have hDc := hD.sub (ws' := [(ae, .inl (cI, 256, .inl (zA xe))), (al, .inl (cI, 4, .inl (zA xl)))]) [1, 2] (by decide) rfl
      refine z_mu (ws := [(h0, .inr (5, [.ref ae, .ref al, .ref ap, .ref az, .ref ar, .int (zI np), .ref am, .int (zI 0)])), (ae, .inl (cI, 256, .inl (zA xe))), (al, .inl (cI, 4, .inl (zA xl))), (am, .inl (cI, 64, .inl (zA xm2)))]) (wc := [(ae, .inl (cI, 256, .inl (zA xe))), (al, .inl (cI, 4, .inl (zA xl)))]) (wr := [(h0, .inr (5, [.ref ae, .ref al, .ref ap, .ref az, .ref ar, .int (zI np), .ref am, .int (zI 0)])), (am, .inl (cI, 64, .inl (zA xm2)))]) (va_runV (As := [.int (zI t), .int (zI d)]) (rest := []) CF (c_X6_put l D cI h0 ae al ap az ar am np 0 xe xl xm2 t d (by omega) (by omega) H.size) (cwV 2 hts gX6_multiply_X6_put rfl rfl rfl (by decide +kernel) ⟨Nat.le_of_ble_eq_true rfl, Nat.le_of_ble_eq_true rfl⟩) (z_preV (va_recv hK hP (ci := 5) (q0 := 0) rfl rfl) hPc hDc hRc (z_dis (ws := [(h0, .inr (5, [.ref ae, .ref al, .ref ap, .ref az, .ref ar, .int (zI np), .ref am, .int (zI 0)])), (ae, .inl (cI, 256, .inl (zA xe))), (al, .inl (cI, 4, .inl (zA xl))), (am, .inl (cI, 64, .inl (zA xm2)))]) (rs := []) (wc := [(ae, .inl (cI, 256, .inl (zA xe))), (al, .inl (cI, 4, .inl (zA xl)))]) (rc := [(h0, .inr (5, [.ref ae, .ref al, .ref ap, .ref az, .ref ar, .int (zI np), .ref am, .int (zI 0)])), (am, .inl (cI, 64, .inl (zA xm2)))]) hD hR0 (isC := [1, 2]) (isR := [0, 3]) rfl rfl (by decide)) (hK.sub (tys' := [(cI, .int)]) [0] rfl)) rfl rfl hl.1 rfl (lv_room (Nat.le_of_ble_eq_true rfl)) dX6_multiply_191 ⟨Nat.le_of_ble_eq_true rfl, Nat.le_of_ble_eq_true rfl⟩) hP hD hS hA [1, 2] [0, 3] rfl rfl (by decide) (by decide) (cells' := 0) (slots' := 0) rfl rfl (fun u_191 H locs hp_191 hP hD hS => ?_)
      revert hp_191 hP hD
      generalize u_191 = xe2_191
      intro hp_191 hP hD
      have hp_191 : (∀ k, 0 ≤ k → k < d → xe2_191 (64 * t + k) = xm2 k) ∧ (∀ x, x < 64 * t ∨ 64 * t + d ≤ x → xe2_191 x = xe x) := hp_191
      have hP := hP.sub (ws' := [(h0, .inr (5, [.ref ae, .ref al, .ref ap, .ref az, .ref ar, .int (zI np), .ref am, .int (zI 0)])), (ae, .inl (cI, 256, .inl (zA xe2_191))), (al, .inl (cI, 4, .inl (zA (zU xl t d)))), (am, .inl (cI, 64, .inl (zA xm2)))]) [0, 2, 3, 1] rfl
      have hD := hD.sub (ws' := [(h0, .inr (5, [.ref ae, .ref al, .ref ap, .ref az, .ref ar, .int (zI np), .ref am, .int (zI 0)])), (ae, .inl (cI, 256, .inl (zA xe2_191))), (al, .inl (cI, 4, .inl (zA (zU xl t d)))), (am, .inl (cI, 64, .inl (zA xm2)))]) [0, 2, 3, 1] (by decide) rfl
      have hdd : d = ndI (lin (eRow xe a) (xl a) (eRow xe b) (xl b)) (xl a + xl b) := by rw [hn_]; symm; first | (exact nd_stop hd_.1 (by rw [← hm_ (d - 1) (by omega) (by omega)]; exact c_178)) | (rw [show d = 1 by omega]; exact nd_1)
      rw [hdd] at hP hD hp_191
      have hres : ndI (lin (eRow xe a) (xl a) (eRow xe b) (xl b)) (xl a + xl b) = d := by exact hdd.symm
      exact z_iret hx hb hr hlocks rfl (xe2_191, xm2) (congrArg (fun z => some (Value.int (zI z))) hres) (by exact ⟨fun y h1 h2 => by show xe2_191 (64 * t + y) = _; rw [hp_191.1 y h1 h2]; exact hm_ y h1 (by omega), hp_191.2⟩) hP hD hS dX6_multiply_194
    · refine lv_aload_n hx hb dX6_multiply_169 rfl (lv_at hl 0 rfl) ?_
      refine va_get (D := D) (ci := 5) (C := RX6) (T := TX6) (N := 8) hx hb hts hi6 hown hK hP 0 rfl rfl 6 (by decide) (hts (.fieldLink RX6 25 "ButterflyYardModel" "made" "[I") (by decide +kernel)) (fun _ h9 => h9) rfl dX6_multiply_170 ?_
      refine lv_iload hx hb dX6_multiply_173 (lv_at hl 4 rfl) ?_
      refine z_iconst hx hb dX6_multiply_175 ?_
      refine z_isub hx hb dX6_multiply_176 ?_
      refine z_iald (cA := cI) (n := 64) (g := xm2) hx hb hK hP 3 0 rfl rfl rfl (by omega) dX6_multiply_177 ?_
      have hdg : 0 ≤ xm2 (d - 1) ∧ xm2 (d - 1) < 10 := by rw [hm_ (d - 1) (by omega) (by omega)]; unfold dgI; omega
      refine z_if_ne (tgt := 187) hx hb dX6_multiply_178 (by decide) (by omega) (fun c_178 => ?_) (fun c_178 => ?_)
      · refine lv_aload_n hx hb dX6_multiply_187 rfl (lv_at hl 0 rfl) ?_
        refine lv_iload_n hx hb dX6_multiply_188 rfl (lv_at hl 3 rfl) ?_
        refine lv_iload hx hb dX6_multiply_189 (lv_at hl 4 rfl) ?_
        have hRc := z_subR (ws := [(h0, .inr (5, [.ref ae, .ref al, .ref ap, .ref az, .ref ar, .int (zI np), .ref am, .int (zI 0)])), (ae, .inl (cI, 256, .inl (zA xe))), (al, .inl (cI, 4, .inl (zA xl))), (am, .inl (cI, 64, .inl (zA xm2)))]) (rs := []) (rc := [(h0, .inr (5, [.ref ae, .ref al, .ref ap, .ref az, .ref ar, .int (zI np), .ref am, .int (zI 0)])), (am, .inl (cI, 64, .inl (zA xm2)))]) hP z_nilP (isR := [0, 3]) rfl
        have hPc := hP.sub (ws' := [(ae, .inl (cI, 256, .inl (zA xe))), (al, .inl (cI, 4, .inl (zA xl)))]) [1, 2] rfl
        have hDc := hD.sub (ws' := [(ae, .inl (cI, 256, .inl (zA xe))), (al, .inl (cI, 4, .inl (zA xl)))]) [1, 2] (by decide) rfl
        refine z_mu (ws := [(h0, .inr (5, [.ref ae, .ref al, .ref ap, .ref az, .ref ar, .int (zI np), .ref am, .int (zI 0)])), (ae, .inl (cI, 256, .inl (zA xe))), (al, .inl (cI, 4, .inl (zA xl))), (am, .inl (cI, 64, .inl (zA xm2)))]) (wc := [(ae, .inl (cI, 256, .inl (zA xe))), (al, .inl (cI, 4, .inl (zA xl)))]) (wr := [(h0, .inr (5, [.ref ae, .ref al, .ref ap, .ref az, .ref ar, .int (zI np), .ref am, .int (zI 0)])), (am, .inl (cI, 64, .inl (zA xm2)))]) (va_runV (As := [.int (zI t), .int (zI d)]) (rest := []) CF (c_X6_put l D cI h0 ae al ap az ar am np 0 xe xl xm2 t d (by omega) (by omega) H.size) (cwV 2 hts gX6_multiply_X6_put rfl rfl rfl (by decide +kernel) ⟨Nat.le_of_ble_eq_true rfl, Nat.le_of_ble_eq_true rfl⟩) (z_preV (va_recv hK hP (ci := 5) (q0 := 0) rfl rfl) hPc hDc hRc (z_dis (ws := [(h0, .inr (5, [.ref ae, .ref al, .ref ap, .ref az, .ref ar, .int (zI np), .ref am, .int (zI 0)])), (ae, .inl (cI, 256, .inl (zA xe))), (al, .inl (cI, 4, .inl (zA xl))), (am, .inl (cI, 64, .inl (zA xm2)))]) (rs := []) (wc := [(ae, .inl (cI, 256, .inl (zA xe))), (al, .inl (cI, 4, .inl (zA xl)))]) (rc := [(h0, .inr (5, [.ref ae, .ref al, .ref ap, .ref az, .ref ar, .int (zI np), .ref am, .int (zI 0)])), (am, .inl (cI, 64, .inl (zA xm2)))]) hD hR0 (isC := [1, 2]) (isR := [0, 3]) rfl rfl (by decide)) (hK.sub (tys' := [(cI, .int)]) [0] rfl)) rfl rfl hl.1 rfl (lv_room (Nat.le_of_ble_eq_true rfl)) dX6_multiply_191 ⟨Nat.le_of_ble_eq_true rfl, Nat.le_of_ble_eq_true rfl⟩) hP hD hS hA [1, 2] [0, 3] rfl rfl (by decide) (by decide) (cells' := 0) (slots' := 0) rfl rfl (fun u_191 H locs hp_191 hP hD hS => ?_)
        revert hp_191 hP hD
        generalize u_191 = xe2_191
        intro hp_191 hP hD
        have hp_191 : (∀ k, 0 ≤ k → k < d → xe2_191 (64 * t + k) = xm2 k) ∧ (∀ x, x < 64 * t ∨ 64 * t + d ≤ x → xe2_191 x = xe x) := hp_191
        have hP := hP.sub (ws' := [(h0, .inr (5, [.ref ae, .ref al, .ref ap, .ref az, .ref ar, .int (zI np), .ref am, .int (zI 0)])), (ae, .inl (cI, 256, .inl (zA xe2_191))), (al, .inl (cI, 4, .inl (zA (zU xl t d)))), (am, .inl (cI, 64, .inl (zA xm2)))]) [0, 2, 3, 1] rfl
        have hD := hD.sub (ws' := [(h0, .inr (5, [.ref ae, .ref al, .ref ap, .ref az, .ref ar, .int (zI np), .ref am, .int (zI 0)])), (ae, .inl (cI, 256, .inl (zA xe2_191))), (al, .inl (cI, 4, .inl (zA (zU xl t d)))), (am, .inl (cI, 64, .inl (zA xm2)))]) [0, 2, 3, 1] (by decide) rfl
        have hdd : d = ndI (lin (eRow xe a) (xl a) (eRow xe b) (xl b)) (xl a + xl b) := by rw [hn_]; symm; first | (exact nd_stop hd_.1 (by rw [← hm_ (d - 1) (by omega) (by omega)]; exact c_178)) | (rw [show d = 1 by omega]; exact nd_1)
        rw [hdd] at hP hD hp_191
        have hres : ndI (lin (eRow xe a) (xl a) (eRow xe b) (xl b)) (xl a + xl b) = d := by exact hdd.symm
        exact z_iret hx hb hr hlocks rfl (xe2_191, xm2) (congrArg (fun z => some (Value.int (zI z))) hres) (by exact ⟨fun y h1 h2 => by show xe2_191 (64 * t + y) = _; rw [hp_191.1 y h1 h2]; exact hm_ y h1 (by omega), hp_191.2⟩) hP hD hS dX6_multiply_194
      · refine lv_iinc (v := zI (d + (-1))) (lv' := [(4, .int (zI (d + (-1)))), (0, .ref h0), (1, .int (zI a)), (2, .int (zI b)), (3, .int (zI t)), (5, .int (zI cy)), (6, .int (zI k))]) hx hb dX6_multiply_181 hl (k := 4) rfl (zI_add _ _) (by decide) rfl (fun ls hl => ?_)
        have hl := lv_sub hl [1, 2, 3, 4, 0, 5, 6] rfl
        have hl : lv_has ls 7 [(0, .ref h0), (1, .int (zI a)), (2, .int (zI b)), (3, .int (zI t)), (4, .int (zI (d + (-1)))), (5, .int (zI cy)), (6, .int (zI k))] := hl
        refine lv_goto (tgt := 163) hx hb dX6_multiply_184 (by decide) ?_
        exact ih_163 (d + (-1)) _ _ _ ⟨(by omega), (by rw [hn_, show d + -1 = d - 1 by omega]; exact nd_top (by omega) (by rw [← hm_ (d - 1) (by omega) (by omega)]; exact c_178)), hP, hD, hS, hl⟩ (by show (d + (-1)).toNat < d.toNat; omega)
  · refine lv_iload hx hb dX6_multiply_125 (lv_at hl 5 rfl) ?_
    refine lv_aload_n hx hb dX6_multiply_127 rfl (lv_at hl 0 rfl) ?_
    refine lv_iload_n hx hb dX6_multiply_128 rfl (lv_at hl 1 rfl) ?_
    refine lv_iload_n hx hb dX6_multiply_129 rfl (lv_at hl 2 rfl) ?_
    refine lv_iload hx hb dX6_multiply_130 (lv_at hl 6 rfl) ?_
    have hRc := z_subR (ws := [(h0, .inr (5, [.ref ae, .ref al, .ref ap, .ref az, .ref ar, .int (zI np), .ref am, .int (zI 0)])), (ae, .inl (cI, 256, .inl (zA xe))), (al, .inl (cI, 4, .inl (zA xl))), (am, .inl (cI, 64, .inl (zA xm2)))]) (rs := []) (rc := [(h0, .inr (5, [.ref ae, .ref al, .ref ap, .ref az, .ref ar, .int (zI np), .ref am, .int (zI 0)])), (ae, .inl (cI, 256, .inl (zA xe))), (al, .inl (cI, 4, .inl (zA xl)))]) hP z_nilP (isR := [0, 1, 2]) rfl
    refine z_ro (ws := [(h0, .inr (5, [.ref ae, .ref al, .ref ap, .ref az, .ref ar, .int (zI np), .ref am, .int (zI 0)])), (ae, .inl (cI, 256, .inl (zA xe))), (al, .inl (cI, 4, .inl (zA xl))), (am, .inl (cI, 64, .inl (zA xm2)))]) (va_runV (As := [.int (zI a), .int (zI b), .int (zI k)]) (rest := [.int (zI cy)]) CF (c_X6_lineAt l D cI h0 ae al ap az ar am np 0 xe xl a b k (by omega) (by omega) (by omega) (by omega) (by exact hxe) (by omega) H.size) (cwV 3 hts gX6_multiply_X6_lineAt rfl rfl rfl (by decide +kernel) ⟨Nat.le_of_ble_eq_true rfl, Nat.le_of_ble_eq_true rfl⟩) (z_preV (va_recv hK hP (ci := 5) (q0 := 0) rfl rfl) z_nilP (z_nilD (A := A)) hRc z_noX (hK.sub (tys' := [(cI, .int)]) [0] rfl)) rfl rfl hl.1 rfl (lv_room (Nat.le_of_ble_eq_true rfl)) dX6_multiply_132 ⟨Nat.le_of_ble_eq_true rfl, Nat.le_of_ble_eq_true rfl⟩) hP hS hA (cells' := 0) (slots' := 0) rfl rfl (fun H locs hP hS => ?_)
    refine z_iadd hx hb dX6_multiply_135 ?_
    refine lv_istore (lv' := [(5, .int (zI (cy + (lin (eRow xe a) (xl a) (eRow xe b) (xl b) k)))), (0, .ref h0), (1, .int (zI a)), (2, .int (zI b)), (3, .int (zI t)), (4, .int (zI ((xl a) + (xl b)))), (6, .int (zI k))]) hx hb dX6_multiply_136 hl (by decide) rfl (fun ls hl => ?_)
    have hl := lv_sub hl [1, 2, 3, 4, 5, 0, 6] rfl
    have hl : lv_has ls 7 [(0, .ref h0), (1, .int (zI a)), (2, .int (zI b)), (3, .int (zI t)), (4, .int (zI ((xl a) + (xl b)))), (5, .int (zI (cy + (lin (eRow xe a) (xl a) (eRow xe b) (xl b) k)))), (6, .int (zI k))] := hl
    refine lv_aload_n hx hb dX6_multiply_138 rfl (lv_at hl 0 rfl) ?_
    refine va_get (D := D) (ci := 5) (C := RX6) (T := TX6) (N := 8) hx hb hts hi6 hown hK hP 0 rfl rfl 6 (by decide) (hts (.fieldLink RX6 25 "ButterflyYardModel" "made" "[I") (by decide +kernel)) (fun _ h9 => h9) rfl dX6_multiply_139 ?_
    refine lv_iload hx hb dX6_multiply_142 (lv_at hl 6 rfl) ?_
    refine lv_iload hx hb dX6_multiply_144 (lv_at hl 5 rfl) ?_
    refine z_bipush hx hb dX6_multiply_146 (by decide) ?_
    refine z_irem hx hb dX6_multiply_148 (by omega) (by omega) ?_
    have hm_148 := z_rem (a := cy + (lin (eRow xe a) (xl a) (eRow xe b) (xl b) k)) (n := 10) (by omega)
    refine z_iast (cA := cI) (n := 64) (g := xm2) (i := k) (v := (cy + (lin (eRow xe a) (xl a) (eRow xe b) (xl b) k)) % 10) hx hb hK hP hD hS 3 0 rfl rfl rfl (by omega) dX6_multiply_149 (fun H locs hP hD hS => ?_)
    have hP : va_P D vwCl [(h0, .inr (5, [.ref ae, .ref al, .ref ap, .ref az, .ref ar, .int (zI np), .ref am, .int (zI 0)])), (ae, .inl (cI, 256, .inl (zA xe))), (al, .inl (cI, 4, .inl (zA xl))), (am, .inl (cI, 64, .inl (zA (zU xm2 k ((cy + (lin (eRow xe a) (xl a) (eRow xe b) (xl b) k)) % 10)))))] H := hP
    have hD : va_D A [(h0, .inr (5, [.ref ae, .ref al, .ref ap, .ref az, .ref ar, .int (zI np), .ref am, .int (zI 0)])), (ae, .inl (cI, 256, .inl (zA xe))), (al, .inl (cI, 4, .inl (zA xl))), (am, .inl (cI, 64, .inl (zA (zU xm2 k ((cy + (lin (eRow xe a) (xl a) (eRow xe b) (xl b) k)) % 10)))))] := hD
    refine lv_iload hx hb dX6_multiply_150 (lv_at hl 5 rfl) ?_
    refine z_bipush hx hb dX6_multiply_152 (by decide) ?_
    refine z_idiv hx hb dX6_multiply_154 (by omega) (by omega) ?_
    refine lv_istore (lv' := [(5, .int (zI ((cy + (lin (eRow xe a) (xl a) (eRow xe b) (xl b) k)) / 10))), (0, .ref h0), (1, .int (zI a)), (2, .int (zI b)), (3, .int (zI t)), (4, .int (zI ((xl a) + (xl b)))), (6, .int (zI k))]) hx hb dX6_multiply_155 hl (by decide) rfl (fun ls hl => ?_)
    have hl := lv_sub hl [1, 2, 3, 4, 5, 0, 6] rfl
    have hl : lv_has ls 7 [(0, .ref h0), (1, .int (zI a)), (2, .int (zI b)), (3, .int (zI t)), (4, .int (zI ((xl a) + (xl b)))), (5, .int (zI ((cy + (lin (eRow xe a) (xl a) (eRow xe b) (xl b) k)) / 10))), (6, .int (zI k))] := hl
    refine lv_iinc (v := zI (k + 1)) (lv' := [(6, .int (zI (k + 1))), (0, .ref h0), (1, .int (zI a)), (2, .int (zI b)), (3, .int (zI t)), (4, .int (zI ((xl a) + (xl b)))), (5, .int (zI ((cy + (lin (eRow xe a) (xl a) (eRow xe b) (xl b) k)) / 10)))]) hx hb dX6_multiply_157 hl (k := 6) rfl (zI_add _ _) (by decide) rfl (fun ls hl => ?_)
    have hl := lv_sub hl [1, 2, 3, 4, 5, 6, 0] rfl
    have hl : lv_has ls 7 [(0, .ref h0), (1, .int (zI a)), (2, .int (zI b)), (3, .int (zI t)), (4, .int (zI ((xl a) + (xl b)))), (5, .int (zI ((cy + (lin (eRow xe a) (xl a) (eRow xe b) (xl b) k)) / 10))), (6, .int (zI (k + 1)))] := hl
    refine lv_goto (tgt := 118) hx hb dX6_multiply_160 (by decide) ?_
    exact ih_118 ((cy + (lin (eRow xe a) (xl a) (eRow xe b) (xl b) k)) / 10, k + 1, zU xm2 k ((cy + (lin (eRow xe a) (xl a) (eRow xe b) (xl b) k)) % 10)) _ _ _ ⟨(by omega), (by rw [cyI_s hk_.1, ← hcy]), (by exact zU_fill hm_ (by unfold dgI; rw [← hcy])), hP, hD, hS, hl⟩ (by show (xl a + xl b - (k + 1)).toNat < (xl a + xl b - k).toNat; omega)

