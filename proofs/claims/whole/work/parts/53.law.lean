section LC
set_option maxHeartbeats 4000000 in
set_option maxRecDepth 100000 in
theorem L_case_append {p : Program} {l : Launch} {e : Env} {s : State} {m : MethodId} {below : List Frame} {meth : Method} {c : Code} {b L : Nat} {xs : Nat → Int32} {D : va_G} {cI cW cP cJ : ClassId} {Q : State → Prop} (hC : zLX p l s m meth c b L xs D cI cW cP cJ) (j : Nat) (hj : 6 * j + 6 ≤ L) (H : Heap) (locs : List Loc) (ls : Array Slot) (hI : zLI s b D cI cW cP cJ (6 * (j : Int)) H locs ls) (kk : ∀ (H : Heap) (locs : List Loc) (ls : Array Slot), zLI s b D cI cW cP cJ (6 * (j : Int)) H locs ls → W p l e room_1 s m #[Value.ref b] below meth c H locs (30 + 2 * j + 2) (1500 + 70 * j + 70) Q (F0 m 1253 ls [])) : W p l e room_1 s m #[Value.ref b] below meth c H locs (30 + 2 * j) (1500 + 70 * j) Q (F0 m 120 ls []) := by
  obtain ⟨hx, hb, hml, hown, hts, hX, hbl, hL, hl9, hXT, hK⟩ := hC
  obtain ⟨ad, ar, md, xe, xl, xp, xz, xr, xm, np, th, pg, o, hY, hM, hag, hH, hS, hl⟩ := hI
  have hA : ∀ q : Nat, s.heap.size ≤ q → (fun q : Nat => s.heap.size ≤ q) q := fun _ h => h
  have hbA : ¬ (fun q : Nat => s.heap.size ≤ q) b := Nat.not_le.mpr hbl
  have CF : CallFix p m c code 7 s #[Value.ref b] wsL_law RL := ⟨hx, hb, hml, hown, hts⟩
  refine lv_aload_n hx hb dL_law_120 rfl (lv_at hl 1 rfl) ?_
  refine lv_aload_n hx hb dL_law_121 rfl (lv_at hl 0 rfl) ?_
  refine lv_iload hx hb dL_law_122 (lv_at hl 4 rfl) ?_
  refine z_iconst hx hb dL_law_124 ?_
  refine z_iadd hx hb dL_law_125 ?_
  refine z_sld (b := b) hx hb hX hbl hbA hS (6 * j + 1) (by omega) (by omega) hL dL_law_126 ?_
  refine lv_aload_n hx hb dL_law_127 rfl (lv_at hl 0 rfl) ?_
  refine lv_iload hx hb dL_law_128 (lv_at hl 4 rfl) ?_
  refine z_iconst hx hb dL_law_130 ?_
  refine z_iadd hx hb dL_law_131 ?_
  refine z_sld (b := b) hx hb hX hbl hbA hS (6 * j + 2) (by omega) (by omega) hL dL_law_132 ?_
  refine lv_aload_n hx hb dL_law_133 rfl (lv_at hl 3 rfl) ?_
  refine zl_call (vx_runSW (hh := [(0, 10, 13, 13), (0, 10, 17, 15), (0, 10, 21, 17)]) (As := [.ref (ad (4, 0)), .int (zI ((xs (6 * j + 1)).toInt)), .int (zI ((xs (6 * j + 2)).toInt)), .ref (ad (18, 0))]) (rest := []) CF (W_append l hl9 D cI cW cP cJ ad ar xl np xp xz pg o ((xs (6 * j + 1)).toInt) ((xs (6 * j + 2)).toInt) hY (zI_rng _) (zI_rng _) (fun q : Nat => s.heap.size ≤ q) H.size) (vx_cwSW 4 hts gL_law_L_append rfl rfl rfl (by decide +kernel) ⟨Nat.le_of_ble_eq_true rfl, Nat.le_of_ble_eq_true rfl⟩) (zl_preW hH hK hXT hS hA) rfl rfl hl.1 rfl (lv_room (Nat.le_of_ble_eq_true rfl)) dL_law_134 ⟨by show 30 + 2 * j + 2 ≤ 601024; omega, by show 1500 + 70 * j + 70 ≤ 7293034; omega⟩) hH hS hA (cells' := 30 + 2 * j + 2) (slots' := 1500 + 70 * j + 70) rfl rfl (fun u H locs hp hH hS => ?_)
  obtain ⟨k1, o1, c1, ar1⟩ := u
  have hk1 : k1 = kAppend xl ((xs (6 * j + 1)).toInt) ((xs (6 * j + 2)).toInt) := hp.1
  have hkr : 0 ≤ kAppend xl ((xs (6 * j + 1)).toInt) ((xs (6 * j + 2)).toInt) ∧ kAppend xl ((xs (6 * j + 1)).toInt) ((xs (6 * j + 2)).toInt) ≤ 3 := kAppend_r
  have hH : zHs D (zYK np) (zY cI cW cP cJ ad ar1 c1 np xp xz pg o1) (zM cI md xe xl xp xz xr xm np th) (fun q : Nat => s.heap.size ≤ q) H := hH
  refine lv_istore (lv' := [(5, .int (zI k1)), (0, .ref b), (1, .ref (ad (4, 0))), (2, .ref (md 0)), (3, .ref (ad (18, 0))), (4, .int (zI (6 * (j : Int))))]) hx hb dL_law_137 hl (by decide) rfl (fun ls hl => ?_)
  have hl := lv_sub hl [1, 2, 3, 4, 5, 0] rfl
  have hl : lv_has ls 7 [(0, .ref b), (1, .ref (ad (4, 0))), (2, .ref (md 0)), (3, .ref (ad (18, 0))), (4, .int (zI (6 * (j : Int)))), (5, .int (zI k1))] := hl
  refine lv_aload_n hx hb dL_law_139 rfl (lv_at hl 2 rfl) ?_
  refine lv_aload_n hx hb dL_law_140 rfl (lv_at hl 0 rfl) ?_
  refine lv_iload hx hb dL_law_141 (lv_at hl 4 rfl) ?_
  refine z_iconst hx hb dL_law_143 ?_
  refine z_iadd hx hb dL_law_144 ?_
  refine z_sld (b := b) hx hb hX hbl hbA hS (6 * j + 1) (by omega) (by omega) hL dL_law_145 ?_
  refine lv_aload_n hx hb dL_law_146 rfl (lv_at hl 0 rfl) ?_
  refine lv_iload hx hb dL_law_147 (lv_at hl 4 rfl) ?_
  refine z_iconst hx hb dL_law_149 ?_
  refine z_iadd hx hb dL_law_150 ?_
  refine z_sld (b := b) hx hb hX hbl hbA hS (6 * j + 2) (by omega) (by omega) hL dL_law_151 ?_
  refine zl_mcall (va_runV (As := [.int (zI ((xs (6 * j + 1)).toInt)), .int (zI ((xs (6 * j + 2)).toInt))]) (rest := []) CF (M_append l D cI md xe xl xp xz xr xm np th ((xs (6 * j + 1)).toInt) ((xs (6 * j + 2)).toInt) hM (zI_rng _) (zI_rng _) H.size) (cwV 2 hts gL_law_X6_append rfl rfl rfl (by decide +kernel) ⟨Nat.le_of_ble_eq_true rfl, Nat.le_of_ble_eq_true rfl⟩) (z_preV (va_recv hK hH.2.2.2.1 (ci := 5) (q0 := 0) rfl rfl) hH.2.2.2.1 hH.2.2.2.2.1 z_nilP (fun i j x y _ h => by simp at h) (hK.sub (tys' := [(cI, .int)]) [0] rfl)) rfl rfl hl.1 rfl (lv_room (Nat.le_of_ble_eq_true rfl)) dL_law_152 ⟨by show 30 + 2 * j + 2 + 0 ≤ 601024; omega, by show 1500 + 70 * j + 70 + 0 ≤ 7293034; omega⟩) hH hS hA (cells' := 30 + 2 * j + 2) (slots' := 1500 + 70 * j + 70) rfl rfl (fun w H locs hm hH hS => ?_)
  obtain ⟨b1, xe1, xl1, xm1⟩ := w
  have hH : zHs D (zYK np) (zY cI cW cP cJ ad ar1 c1 np xp xz pg o1) (zM cI md xe1 xl1 xp xz xr xm1 np (kAppend xl ((xs (6 * j + 1)).toInt) ((xs (6 * j + 2)).toInt))) (fun q : Nat => s.heap.size ≤ q) H := hH
  obtain ⟨e1, hY1, hM1, hag1⟩ := z_inv hY hM hag hp hm (fun q => v_append hM hag q.1)
  have e1 : xl1 = c1 := e1
  subst e1
  have hY1 : zYI ad ar1 xl1 np xp xz pg := hY1
  have hM1 : zMI xe1 xl1 xp xz xr np := hM1
  have hag1 : zSame ar1 xe1 xl1 := hag1
  refine lv_istore (lv' := [(6, .int (zI b1)), (0, .ref b), (1, .ref (ad (4, 0))), (2, .ref (md 0)), (3, .ref (ad (18, 0))), (4, .int (zI (6 * (j : Int)))), (5, .int (zI k1))]) hx hb dL_law_155 hl (by decide) rfl (fun ls hl => ?_)
  have hl := lv_sub hl [1, 2, 3, 4, 5, 6, 0] rfl
  have hl : lv_has ls 7 [(0, .ref b), (1, .ref (ad (4, 0))), (2, .ref (md 0)), (3, .ref (ad (18, 0))), (4, .int (zI (6 * (j : Int)))), (5, .int (zI k1)), (6, .int (zI b1))] := hl
  refine lv_aload_n hx hb dL_law_157 rfl (lv_at hl 2 rfl) ?_
  have hRc := hH.2.2.2.1.sub (ws' := [(md 0, .inr (5, [.ref (md 1), .ref (md 2), .ref (md 3), .ref (md 4), .ref (md 5), .int (zI np), .ref (md 6), .int (zI (kAppend xl ((xs (6 * j + 1)).toInt) ((xs (6 * j + 2)).toInt)))]))]) [0] rfl
  refine zl_ro (va_runV (As := []) (rest := []) CF (c_X6_thrown l D (md 0) (md 1) (md 2) (md 3) (md 4) (md 5) (md 6) np (kAppend xl ((xs (6 * j + 1)).toInt) ((xs (6 * j + 2)).toInt)) H.size) (cwV 0 hts gL_law_X6_thrown rfl rfl rfl (by decide +kernel) ⟨Nat.le_of_ble_eq_true rfl, Nat.le_of_ble_eq_true rfl⟩) (z_preV (va_recv hK hH.2.2.2.1 (ci := 5) (q0 := 0) rfl rfl) z_nilP (z_nilD (A := (fun q : Nat => s.heap.size ≤ q))) hRc z_noX (hK.sub (tys' := []) [] rfl)) rfl rfl hl.1 rfl (lv_room (Nat.le_of_ble_eq_true rfl)) dL_law_158 ⟨by show 30 + 2 * j + 2 + 0 ≤ 601024; omega, by show 1500 + 70 * j + 70 + 0 ≤ 7293034; omega⟩) hH hS hA (cells' := 30 + 2 * j + 2) (slots' := 1500 + 70 * j + 70) rfl rfl (fun H locs hH hS => ?_)
  refine lv_iload hx hb dL_law_161 (lv_at hl 5 rfl) ?_
  refine lv_icmp_eq (tgt := 168) hx hb dL_law_163 (by decide) (fun _ => ?_) (fun q => absurd (congrArg zI hk1.symm) q)
  refine lv_iload hx hb dL_law_168 (lv_at hl 5 rfl) ?_
  refine z_if_ne (tgt := 185) hx hb dL_law_170 (by decide) (by omega) (fun c_0 => ?_) (fun c_0 => ?_)
  · refine lv_goto (tgt := 1253) hx hb dL_law_185 (by decide) ?_
    exact kk _ _ _ ⟨ad, ar1, md, xe1, xl1, xp, xz, xr, xm1, np, kAppend xl ((xs (6 * j + 1)).toInt) ((xs (6 * j + 2)).toInt), pg, o1, hY1, hM1, hag1, hH, hS, lv_sub hl [0, 1, 2, 3, 4] rfl⟩
  · have hk0 := hk1.symm.trans c_0
    have ho : o1 0 = zL (xl ((xs (6 * j + 1)).toInt) + 1) := (hp.2.1 hk0).1
    have hvr : -2147483648 ≤ xl ((xs (6 * j + 1)).toInt) + 1 ∧ xl ((xs (6 * j + 1)).toInt) + 1 ≤ 2147483647 := (hp.2.1 hk0).2
    have hbv : b1 = xl ((xs (6 * j + 1)).toInt) + 1 := (hm.1 hk0).trans (rfl)
    refine lv_aload_n hx hb dL_law_173 rfl (lv_at hl 3 rfl) ?_
    refine z_iconst hx hb dL_law_174 ?_
    have hPo := zf_sub hH.1 [(18, 0)] (List.forall_mem_cons.mpr ⟨zKf 18 rfl rfl, fun _ h => absurd h List.not_mem_nil⟩) (wc := [(ad (18, 0), .inl (cJ, 1, .inr (.inl o1)))]) rfl
    refine va_lald (f := o1) hx hb hK hPo 0 3 rfl rfl (z_in (i := 0) (n := 1) ⟨Int.le_refl _, by decide⟩ (by decide)) dL_law_175 ?_
    rw [show (zI 0).toNatClampNeg = 0 from by decide, ho]
    refine lv_iload hx hb dL_law_176 (lv_at hl 6 rfl) ?_
    refine z_eqI (b := xl ((xs (6 * j + 1)).toInt) + 1) hbv ?_
    refine z_i2l hx hb dL_law_178 hvr ?_
    refine z_lcmp hx hb dL_law_179 (by omega) (by omega) ?_
    refine z_ifC_eq (tgt := 185) hx hb dL_law_180 (by decide) (fun _ => ?_) (fun q => absurd rfl q)
    refine lv_goto (tgt := 1253) hx hb dL_law_185 (by decide) ?_
    exact kk _ _ _ ⟨ad, ar1, md, xe1, xl1, xp, xz, xr, xm1, np, kAppend xl ((xs (6 * j + 1)).toInt) ((xs (6 * j + 2)).toInt), pg, o1, hY1, hM1, hag1, hH, hS, lv_sub hl [0, 1, 2, 3, 4] rfl⟩

set_option maxHeartbeats 4000000 in
set_option maxRecDepth 100000 in
theorem L_case_clear {p : Program} {l : Launch} {e : Env} {s : State} {m : MethodId} {below : List Frame} {meth : Method} {c : Code} {b L : Nat} {xs : Nat → Int32} {D : va_G} {cI cW cP cJ : ClassId} {Q : State → Prop} (hC : zLX p l s m meth c b L xs D cI cW cP cJ) (j : Nat) (hj : 6 * j + 6 ≤ L) (H : Heap) (locs : List Loc) (ls : Array Slot) (hI : zLI s b D cI cW cP cJ (6 * (j : Int)) H locs ls) (kk : ∀ (H : Heap) (locs : List Loc) (ls : Array Slot), zLI s b D cI cW cP cJ (6 * (j : Int)) H locs ls → W p l e room_1 s m #[Value.ref b] below meth c H locs (30 + 2 * j + 2) (1500 + 70 * j + 70) Q (F0 m 1253 ls [])) : W p l e room_1 s m #[Value.ref b] below meth c H locs (30 + 2 * j) (1500 + 70 * j) Q (F0 m 188 ls []) := by
  obtain ⟨hx, hb, hml, hown, hts, hX, hbl, hL, hl9, hXT, hK⟩ := hC
  obtain ⟨ad, ar, md, xe, xl, xp, xz, xr, xm, np, th, pg, o, hY, hM, hag, hH, hS, hl⟩ := hI
  have hA : ∀ q : Nat, s.heap.size ≤ q → (fun q : Nat => s.heap.size ≤ q) q := fun _ h => h
  have hbA : ¬ (fun q : Nat => s.heap.size ≤ q) b := Nat.not_le.mpr hbl
  have CF : CallFix p m c code 7 s #[Value.ref b] wsL_law RL := ⟨hx, hb, hml, hown, hts⟩
  refine lv_aload_n hx hb dL_law_188 rfl (lv_at hl 1 rfl) ?_
  refine lv_aload_n hx hb dL_law_189 rfl (lv_at hl 0 rfl) ?_
  refine lv_iload hx hb dL_law_190 (lv_at hl 4 rfl) ?_
  refine z_iconst hx hb dL_law_192 ?_
  refine z_iadd hx hb dL_law_193 ?_
  refine z_sld (b := b) hx hb hX hbl hbA hS (6 * j + 1) (by omega) (by omega) hL dL_law_194 ?_
  refine lv_aload_n hx hb dL_law_195 rfl (lv_at hl 3 rfl) ?_
  refine zl_call (vx_runSW (hh := [(0, 9, 12, 13)]) (As := [.ref (ad (4, 0)), .int (zI ((xs (6 * j + 1)).toInt)), .ref (ad (18, 0))]) (rest := []) CF (W_clear l hl9 D cI cW cP cJ ad ar xl np xp xz pg o ((xs (6 * j + 1)).toInt) hY (zI_rng _) (fun q : Nat => s.heap.size ≤ q) H.size) (vx_cwSW 3 hts gL_law_L_clear rfl rfl rfl (by decide +kernel) ⟨Nat.le_of_ble_eq_true rfl, Nat.le_of_ble_eq_true rfl⟩) (zl_preW hH hK hXT hS hA) rfl rfl hl.1 rfl (lv_room (Nat.le_of_ble_eq_true rfl)) dL_law_196 ⟨by show 30 + 2 * j + 2 ≤ 601024; omega, by show 1500 + 70 * j + 70 ≤ 7293034; omega⟩) hH hS hA (cells' := 30 + 2 * j + 2) (slots' := 1500 + 70 * j + 70) rfl rfl (fun u H locs hp hH hS => ?_)
  obtain ⟨k1, o1, c1, ar1⟩ := u
  have hk1 : k1 = kRow ((xs (6 * j + 1)).toInt) := hp.1
  have hkr : 0 ≤ kRow ((xs (6 * j + 1)).toInt) ∧ kRow ((xs (6 * j + 1)).toInt) ≤ 3 := kRow_r
  have hH : zHs D (zYK np) (zY cI cW cP cJ ad ar1 c1 np xp xz pg o1) (zM cI md xe xl xp xz xr xm np th) (fun q : Nat => s.heap.size ≤ q) H := hH
  refine lv_istore (lv' := [(5, .int (zI k1)), (0, .ref b), (1, .ref (ad (4, 0))), (2, .ref (md 0)), (3, .ref (ad (18, 0))), (4, .int (zI (6 * (j : Int))))]) hx hb dL_law_199 hl (by decide) rfl (fun ls hl => ?_)
  have hl := lv_sub hl [1, 2, 3, 4, 5, 0] rfl
  have hl : lv_has ls 7 [(0, .ref b), (1, .ref (ad (4, 0))), (2, .ref (md 0)), (3, .ref (ad (18, 0))), (4, .int (zI (6 * (j : Int)))), (5, .int (zI k1))] := hl
  refine lv_aload_n hx hb dL_law_201 rfl (lv_at hl 2 rfl) ?_
  refine lv_aload_n hx hb dL_law_202 rfl (lv_at hl 0 rfl) ?_
  refine lv_iload hx hb dL_law_203 (lv_at hl 4 rfl) ?_
  refine z_iconst hx hb dL_law_205 ?_
  refine z_iadd hx hb dL_law_206 ?_
  refine z_sld (b := b) hx hb hX hbl hbA hS (6 * j + 1) (by omega) (by omega) hL dL_law_207 ?_
  refine zl_mcall (va_runV (As := [.int (zI ((xs (6 * j + 1)).toInt))]) (rest := []) CF (M_clear l D cI md xe xl xp xz xr xm np th ((xs (6 * j + 1)).toInt) hM (zI_rng _) H.size) (cwV 1 hts gL_law_X6_clear rfl rfl rfl (by decide +kernel) ⟨Nat.le_of_ble_eq_true rfl, Nat.le_of_ble_eq_true rfl⟩) (z_preV (va_recv hK hH.2.2.2.1 (ci := 5) (q0 := 0) rfl rfl) hH.2.2.2.1 hH.2.2.2.2.1 z_nilP (fun i j x y _ h => by simp at h) (hK.sub (tys' := [(cI, .int)]) [0] rfl)) rfl rfl hl.1 rfl (lv_room (Nat.le_of_ble_eq_true rfl)) dL_law_208 ⟨by show 30 + 2 * j + 2 + 0 ≤ 601024; omega, by show 1500 + 70 * j + 70 + 0 ≤ 7293034; omega⟩) hH hS hA (cells' := 30 + 2 * j + 2) (slots' := 1500 + 70 * j + 70) rfl rfl (fun w H locs hm hH hS => ?_)
  obtain ⟨b1, xe1, xl1, xm1⟩ := w
  have hH : zHs D (zYK np) (zY cI cW cP cJ ad ar1 c1 np xp xz pg o1) (zM cI md xe1 xl1 xp xz xr xm1 np (kRow ((xs (6 * j + 1)).toInt))) (fun q : Nat => s.heap.size ≤ q) H := hH
  obtain ⟨e1, hY1, hM1, hag1⟩ := z_inv hY hM hag hp hm (fun q => v_clear q.1)
  have e1 : xl1 = c1 := e1
  subst e1
  have hY1 : zYI ad ar1 xl1 np xp xz pg := hY1
  have hM1 : zMI xe1 xl1 xp xz xr np := hM1
  have hag1 : zSame ar1 xe1 xl1 := hag1
  refine lv_istore (lv' := [(6, .int (zI b1)), (0, .ref b), (1, .ref (ad (4, 0))), (2, .ref (md 0)), (3, .ref (ad (18, 0))), (4, .int (zI (6 * (j : Int)))), (5, .int (zI k1))]) hx hb dL_law_211 hl (by decide) rfl (fun ls hl => ?_)
  have hl := lv_sub hl [1, 2, 3, 4, 5, 6, 0] rfl
  have hl : lv_has ls 7 [(0, .ref b), (1, .ref (ad (4, 0))), (2, .ref (md 0)), (3, .ref (ad (18, 0))), (4, .int (zI (6 * (j : Int)))), (5, .int (zI k1)), (6, .int (zI b1))] := hl
  refine lv_aload_n hx hb dL_law_213 rfl (lv_at hl 2 rfl) ?_
  have hRc := hH.2.2.2.1.sub (ws' := [(md 0, .inr (5, [.ref (md 1), .ref (md 2), .ref (md 3), .ref (md 4), .ref (md 5), .int (zI np), .ref (md 6), .int (zI (kRow ((xs (6 * j + 1)).toInt)))]))]) [0] rfl
  refine zl_ro (va_runV (As := []) (rest := []) CF (c_X6_thrown l D (md 0) (md 1) (md 2) (md 3) (md 4) (md 5) (md 6) np (kRow ((xs (6 * j + 1)).toInt)) H.size) (cwV 0 hts gL_law_X6_thrown rfl rfl rfl (by decide +kernel) ⟨Nat.le_of_ble_eq_true rfl, Nat.le_of_ble_eq_true rfl⟩) (z_preV (va_recv hK hH.2.2.2.1 (ci := 5) (q0 := 0) rfl rfl) z_nilP (z_nilD (A := (fun q : Nat => s.heap.size ≤ q))) hRc z_noX (hK.sub (tys' := []) [] rfl)) rfl rfl hl.1 rfl (lv_room (Nat.le_of_ble_eq_true rfl)) dL_law_214 ⟨by show 30 + 2 * j + 2 + 0 ≤ 601024; omega, by show 1500 + 70 * j + 70 + 0 ≤ 7293034; omega⟩) hH hS hA (cells' := 30 + 2 * j + 2) (slots' := 1500 + 70 * j + 70) rfl rfl (fun H locs hH hS => ?_)
  refine lv_iload hx hb dL_law_217 (lv_at hl 5 rfl) ?_
  refine lv_icmp_eq (tgt := 224) hx hb dL_law_219 (by decide) (fun _ => ?_) (fun q => absurd (congrArg zI hk1.symm) q)
  refine lv_iload hx hb dL_law_224 (lv_at hl 5 rfl) ?_
  refine z_if_ne (tgt := 241) hx hb dL_law_226 (by decide) (by omega) (fun c_0 => ?_) (fun c_0 => ?_)
  · refine lv_goto (tgt := 1253) hx hb dL_law_241 (by decide) ?_
    exact kk _ _ _ ⟨ad, ar1, md, xe1, xl1, xp, xz, xr, xm1, np, kRow ((xs (6 * j + 1)).toInt), pg, o1, hY1, hM1, hag1, hH, hS, lv_sub hl [0, 1, 2, 3, 4] rfl⟩
  · have hk0 := hk1.symm.trans c_0
    have ho : o1 0 = zL (xl ((xs (6 * j + 1)).toInt)) := (hp.2.1 hk0).1
    have hvr : -2147483648 ≤ xl ((xs (6 * j + 1)).toInt) ∧ xl ((xs (6 * j + 1)).toInt) ≤ 2147483647 := (hp.2.1 hk0).2
    have hbv : b1 = xl ((xs (6 * j + 1)).toInt) := (hm.1 hk0).trans (rfl)
    refine lv_aload_n hx hb dL_law_229 rfl (lv_at hl 3 rfl) ?_
    refine z_iconst hx hb dL_law_230 ?_
    have hPo := zf_sub hH.1 [(18, 0)] (List.forall_mem_cons.mpr ⟨zKf 18 rfl rfl, fun _ h => absurd h List.not_mem_nil⟩) (wc := [(ad (18, 0), .inl (cJ, 1, .inr (.inl o1)))]) rfl
    refine va_lald (f := o1) hx hb hK hPo 0 3 rfl rfl (z_in (i := 0) (n := 1) ⟨Int.le_refl _, by decide⟩ (by decide)) dL_law_231 ?_
    rw [show (zI 0).toNatClampNeg = 0 from by decide, ho]
    refine lv_iload hx hb dL_law_232 (lv_at hl 6 rfl) ?_
    refine z_eqI (b := xl ((xs (6 * j + 1)).toInt)) hbv ?_
    refine z_i2l hx hb dL_law_234 hvr ?_
    refine z_lcmp hx hb dL_law_235 (by omega) (by omega) ?_
    refine z_ifC_eq (tgt := 241) hx hb dL_law_236 (by decide) (fun _ => ?_) (fun q => absurd rfl q)
    refine lv_goto (tgt := 1253) hx hb dL_law_241 (by decide) ?_
    exact kk _ _ _ ⟨ad, ar1, md, xe1, xl1, xp, xz, xr, xm1, np, kRow ((xs (6 * j + 1)).toInt), pg, o1, hY1, hM1, hag1, hH, hS, lv_sub hl [0, 1, 2, 3, 4] rfl⟩

set_option maxHeartbeats 4000000 in
set_option maxRecDepth 100000 in
theorem L_case_copy {p : Program} {l : Launch} {e : Env} {s : State} {m : MethodId} {below : List Frame} {meth : Method} {c : Code} {b L : Nat} {xs : Nat → Int32} {D : va_G} {cI cW cP cJ : ClassId} {Q : State → Prop} (hC : zLX p l s m meth c b L xs D cI cW cP cJ) (j : Nat) (hj : 6 * j + 6 ≤ L) (H : Heap) (locs : List Loc) (ls : Array Slot) (hI : zLI s b D cI cW cP cJ (6 * (j : Int)) H locs ls) (kk : ∀ (H : Heap) (locs : List Loc) (ls : Array Slot), zLI s b D cI cW cP cJ (6 * (j : Int)) H locs ls → W p l e room_1 s m #[Value.ref b] below meth c H locs (30 + 2 * j + 2) (1500 + 70 * j + 70) Q (F0 m 1253 ls [])) : W p l e room_1 s m #[Value.ref b] below meth c H locs (30 + 2 * j) (1500 + 70 * j) Q (F0 m 244 ls []) := by
  obtain ⟨hx, hb, hml, hown, hts, hX, hbl, hL, hl9, hXT, hK⟩ := hC
  obtain ⟨ad, ar, md, xe, xl, xp, xz, xr, xm, np, th, pg, o, hY, hM, hag, hH, hS, hl⟩ := hI
  have hA : ∀ q : Nat, s.heap.size ≤ q → (fun q : Nat => s.heap.size ≤ q) q := fun _ h => h
  have hbA : ¬ (fun q : Nat => s.heap.size ≤ q) b := Nat.not_le.mpr hbl
  have CF : CallFix p m c code 7 s #[Value.ref b] wsL_law RL := ⟨hx, hb, hml, hown, hts⟩
  refine lv_aload_n hx hb dL_law_244 rfl (lv_at hl 1 rfl) ?_
  refine lv_aload_n hx hb dL_law_245 rfl (lv_at hl 0 rfl) ?_
  refine lv_iload hx hb dL_law_246 (lv_at hl 4 rfl) ?_
  refine z_iconst hx hb dL_law_248 ?_
  refine z_iadd hx hb dL_law_249 ?_
  refine z_sld (b := b) hx hb hX hbl hbA hS (6 * j + 1) (by omega) (by omega) hL dL_law_250 ?_
  refine lv_aload_n hx hb dL_law_251 rfl (lv_at hl 0 rfl) ?_
  refine lv_iload hx hb dL_law_252 (lv_at hl 4 rfl) ?_
  refine z_iconst hx hb dL_law_254 ?_
  refine z_iadd hx hb dL_law_255 ?_
  refine z_sld (b := b) hx hb hX hbl hbA hS (6 * j + 2) (by omega) (by omega) hL dL_law_256 ?_
  refine lv_aload_n hx hb dL_law_257 rfl (lv_at hl 3 rfl) ?_
  refine zl_call (vx_runSW (hh := [(0, 10, 13, 13)]) (As := [.ref (ad (4, 0)), .int (zI ((xs (6 * j + 1)).toInt)), .int (zI ((xs (6 * j + 2)).toInt)), .ref (ad (18, 0))]) (rest := []) CF (W_copy l hl9 D cI cW cP cJ ad ar xl np xp xz pg o ((xs (6 * j + 1)).toInt) ((xs (6 * j + 2)).toInt) hY (zI_rng _) (zI_rng _) (fun q : Nat => s.heap.size ≤ q) H.size) (vx_cwSW 4 hts gL_law_L_copy rfl rfl rfl (by decide +kernel) ⟨Nat.le_of_ble_eq_true rfl, Nat.le_of_ble_eq_true rfl⟩) (zl_preW hH hK hXT hS hA) rfl rfl hl.1 rfl (lv_room (Nat.le_of_ble_eq_true rfl)) dL_law_258 ⟨by show 30 + 2 * j + 2 ≤ 601024; omega, by show 1500 + 70 * j + 70 ≤ 7293034; omega⟩) hH hS hA (cells' := 30 + 2 * j + 2) (slots' := 1500 + 70 * j + 70) rfl rfl (fun u H locs hp hH hS => ?_)
  obtain ⟨k1, o1, c1, ar1⟩ := u
  have hk1 : k1 = kCopy ((xs (6 * j + 1)).toInt) ((xs (6 * j + 2)).toInt) := hp.1
  have hkr : 0 ≤ kCopy ((xs (6 * j + 1)).toInt) ((xs (6 * j + 2)).toInt) ∧ kCopy ((xs (6 * j + 1)).toInt) ((xs (6 * j + 2)).toInt) ≤ 3 := kCopy_r
  have hH : zHs D (zYK np) (zY cI cW cP cJ ad ar1 c1 np xp xz pg o1) (zM cI md xe xl xp xz xr xm np th) (fun q : Nat => s.heap.size ≤ q) H := hH
  refine lv_istore (lv' := [(5, .int (zI k1)), (0, .ref b), (1, .ref (ad (4, 0))), (2, .ref (md 0)), (3, .ref (ad (18, 0))), (4, .int (zI (6 * (j : Int))))]) hx hb dL_law_261 hl (by decide) rfl (fun ls hl => ?_)
  have hl := lv_sub hl [1, 2, 3, 4, 5, 0] rfl
  have hl : lv_has ls 7 [(0, .ref b), (1, .ref (ad (4, 0))), (2, .ref (md 0)), (3, .ref (ad (18, 0))), (4, .int (zI (6 * (j : Int)))), (5, .int (zI k1))] := hl
  refine lv_aload_n hx hb dL_law_263 rfl (lv_at hl 2 rfl) ?_
  refine lv_aload_n hx hb dL_law_264 rfl (lv_at hl 0 rfl) ?_
  refine lv_iload hx hb dL_law_265 (lv_at hl 4 rfl) ?_
  refine z_iconst hx hb dL_law_267 ?_
  refine z_iadd hx hb dL_law_268 ?_
  refine z_sld (b := b) hx hb hX hbl hbA hS (6 * j + 1) (by omega) (by omega) hL dL_law_269 ?_
  refine lv_aload_n hx hb dL_law_270 rfl (lv_at hl 0 rfl) ?_
  refine lv_iload hx hb dL_law_271 (lv_at hl 4 rfl) ?_
  refine z_iconst hx hb dL_law_273 ?_
  refine z_iadd hx hb dL_law_274 ?_
  refine z_sld (b := b) hx hb hX hbl hbA hS (6 * j + 2) (by omega) (by omega) hL dL_law_275 ?_
  refine zl_mcall (va_runV (As := [.int (zI ((xs (6 * j + 1)).toInt)), .int (zI ((xs (6 * j + 2)).toInt))]) (rest := []) CF (M_copy l D cI md xe xl xp xz xr xm np th ((xs (6 * j + 1)).toInt) ((xs (6 * j + 2)).toInt) hM (zI_rng _) (zI_rng _) H.size) (cwV 2 hts gL_law_X6_copy rfl rfl rfl (by decide +kernel) ⟨Nat.le_of_ble_eq_true rfl, Nat.le_of_ble_eq_true rfl⟩) (z_preV (va_recv hK hH.2.2.2.1 (ci := 5) (q0 := 0) rfl rfl) hH.2.2.2.1 hH.2.2.2.2.1 z_nilP (fun i j x y _ h => by simp at h) (hK.sub (tys' := [(cI, .int)]) [0] rfl)) rfl rfl hl.1 rfl (lv_room (Nat.le_of_ble_eq_true rfl)) dL_law_276 ⟨by show 30 + 2 * j + 2 + 0 ≤ 601024; omega, by show 1500 + 70 * j + 70 + 0 ≤ 7293034; omega⟩) hH hS hA (cells' := 30 + 2 * j + 2) (slots' := 1500 + 70 * j + 70) rfl rfl (fun w H locs hm hH hS => ?_)
  obtain ⟨b1, xe1, xl1, xm1⟩ := w
  have hH : zHs D (zYK np) (zY cI cW cP cJ ad ar1 c1 np xp xz pg o1) (zM cI md xe1 xl1 xp xz xr xm1 np (kCopy ((xs (6 * j + 1)).toInt) ((xs (6 * j + 2)).toInt))) (fun q : Nat => s.heap.size ≤ q) H := hH
  obtain ⟨e1, hY1, hM1, hag1⟩ := z_inv hY hM hag hp hm (fun q => v_copy hM hag q.1)
  have e1 : xl1 = c1 := e1
  subst e1
  have hY1 : zYI ad ar1 xl1 np xp xz pg := hY1
  have hM1 : zMI xe1 xl1 xp xz xr np := hM1
  have hag1 : zSame ar1 xe1 xl1 := hag1
  refine lv_istore (lv' := [(6, .int (zI b1)), (0, .ref b), (1, .ref (ad (4, 0))), (2, .ref (md 0)), (3, .ref (ad (18, 0))), (4, .int (zI (6 * (j : Int)))), (5, .int (zI k1))]) hx hb dL_law_279 hl (by decide) rfl (fun ls hl => ?_)
  have hl := lv_sub hl [1, 2, 3, 4, 5, 6, 0] rfl
  have hl : lv_has ls 7 [(0, .ref b), (1, .ref (ad (4, 0))), (2, .ref (md 0)), (3, .ref (ad (18, 0))), (4, .int (zI (6 * (j : Int)))), (5, .int (zI k1)), (6, .int (zI b1))] := hl
  refine lv_aload_n hx hb dL_law_281 rfl (lv_at hl 2 rfl) ?_
  have hRc := hH.2.2.2.1.sub (ws' := [(md 0, .inr (5, [.ref (md 1), .ref (md 2), .ref (md 3), .ref (md 4), .ref (md 5), .int (zI np), .ref (md 6), .int (zI (kCopy ((xs (6 * j + 1)).toInt) ((xs (6 * j + 2)).toInt)))]))]) [0] rfl
  refine zl_ro (va_runV (As := []) (rest := []) CF (c_X6_thrown l D (md 0) (md 1) (md 2) (md 3) (md 4) (md 5) (md 6) np (kCopy ((xs (6 * j + 1)).toInt) ((xs (6 * j + 2)).toInt)) H.size) (cwV 0 hts gL_law_X6_thrown rfl rfl rfl (by decide +kernel) ⟨Nat.le_of_ble_eq_true rfl, Nat.le_of_ble_eq_true rfl⟩) (z_preV (va_recv hK hH.2.2.2.1 (ci := 5) (q0 := 0) rfl rfl) z_nilP (z_nilD (A := (fun q : Nat => s.heap.size ≤ q))) hRc z_noX (hK.sub (tys' := []) [] rfl)) rfl rfl hl.1 rfl (lv_room (Nat.le_of_ble_eq_true rfl)) dL_law_282 ⟨by show 30 + 2 * j + 2 + 0 ≤ 601024; omega, by show 1500 + 70 * j + 70 + 0 ≤ 7293034; omega⟩) hH hS hA (cells' := 30 + 2 * j + 2) (slots' := 1500 + 70 * j + 70) rfl rfl (fun H locs hH hS => ?_)
  refine lv_iload hx hb dL_law_285 (lv_at hl 5 rfl) ?_
  refine lv_icmp_eq (tgt := 292) hx hb dL_law_287 (by decide) (fun _ => ?_) (fun q => absurd (congrArg zI hk1.symm) q)
  refine lv_iload hx hb dL_law_292 (lv_at hl 5 rfl) ?_
  refine z_if_ne (tgt := 309) hx hb dL_law_294 (by decide) (by omega) (fun c_0 => ?_) (fun c_0 => ?_)
  · refine lv_goto (tgt := 1253) hx hb dL_law_309 (by decide) ?_
    exact kk _ _ _ ⟨ad, ar1, md, xe1, xl1, xp, xz, xr, xm1, np, kCopy ((xs (6 * j + 1)).toInt) ((xs (6 * j + 2)).toInt), pg, o1, hY1, hM1, hag1, hH, hS, lv_sub hl [0, 1, 2, 3, 4] rfl⟩
  · have hk0 := hk1.symm.trans c_0
    have ho : o1 0 = zL (xl ((xs (6 * j + 1)).toInt)) := (hp.2.1 hk0).1
    have hvr : -2147483648 ≤ xl ((xs (6 * j + 1)).toInt) ∧ xl ((xs (6 * j + 1)).toInt) ≤ 2147483647 := (hp.2.1 hk0).2
    have hbv : b1 = xl ((xs (6 * j + 1)).toInt) := (hm.1 hk0).trans (rfl)
    refine lv_aload_n hx hb dL_law_297 rfl (lv_at hl 3 rfl) ?_
    refine z_iconst hx hb dL_law_298 ?_
    have hPo := zf_sub hH.1 [(18, 0)] (List.forall_mem_cons.mpr ⟨zKf 18 rfl rfl, fun _ h => absurd h List.not_mem_nil⟩) (wc := [(ad (18, 0), .inl (cJ, 1, .inr (.inl o1)))]) rfl
    refine va_lald (f := o1) hx hb hK hPo 0 3 rfl rfl (z_in (i := 0) (n := 1) ⟨Int.le_refl _, by decide⟩ (by decide)) dL_law_299 ?_
    rw [show (zI 0).toNatClampNeg = 0 from by decide, ho]
    refine lv_iload hx hb dL_law_300 (lv_at hl 6 rfl) ?_
    refine z_eqI (b := xl ((xs (6 * j + 1)).toInt)) hbv ?_
    refine z_i2l hx hb dL_law_302 hvr ?_
    refine z_lcmp hx hb dL_law_303 (by omega) (by omega) ?_
    refine z_ifC_eq (tgt := 309) hx hb dL_law_304 (by decide) (fun _ => ?_) (fun q => absurd rfl q)
    refine lv_goto (tgt := 1253) hx hb dL_law_309 (by decide) ?_
    exact kk _ _ _ ⟨ad, ar1, md, xe1, xl1, xp, xz, xr, xm1, np, kCopy ((xs (6 * j + 1)).toInt) ((xs (6 * j + 2)).toInt), pg, o1, hY1, hM1, hag1, hH, hS, lv_sub hl [0, 1, 2, 3, 4] rfl⟩

set_option maxHeartbeats 4000000 in
set_option maxRecDepth 100000 in
theorem L_case_length {p : Program} {l : Launch} {e : Env} {s : State} {m : MethodId} {below : List Frame} {meth : Method} {c : Code} {b L : Nat} {xs : Nat → Int32} {D : va_G} {cI cW cP cJ : ClassId} {Q : State → Prop} (hC : zLX p l s m meth c b L xs D cI cW cP cJ) (j : Nat) (hj : 6 * j + 6 ≤ L) (H : Heap) (locs : List Loc) (ls : Array Slot) (hI : zLI s b D cI cW cP cJ (6 * (j : Int)) H locs ls) (kk : ∀ (H : Heap) (locs : List Loc) (ls : Array Slot), zLI s b D cI cW cP cJ (6 * (j : Int)) H locs ls → W p l e room_1 s m #[Value.ref b] below meth c H locs (30 + 2 * j + 2) (1500 + 70 * j + 70) Q (F0 m 1253 ls [])) : W p l e room_1 s m #[Value.ref b] below meth c H locs (30 + 2 * j) (1500 + 70 * j) Q (F0 m 312 ls []) := by
  obtain ⟨hx, hb, hml, hown, hts, hX, hbl, hL, hl9, hXT, hK⟩ := hC
  obtain ⟨ad, ar, md, xe, xl, xp, xz, xr, xm, np, th, pg, o, hY, hM, hag, hH, hS, hl⟩ := hI
  have hA : ∀ q : Nat, s.heap.size ≤ q → (fun q : Nat => s.heap.size ≤ q) q := fun _ h => h
  have hbA : ¬ (fun q : Nat => s.heap.size ≤ q) b := Nat.not_le.mpr hbl
  have CF : CallFix p m c code 7 s #[Value.ref b] wsL_law RL := ⟨hx, hb, hml, hown, hts⟩
  refine lv_aload_n hx hb dL_law_312 rfl (lv_at hl 1 rfl) ?_
  refine lv_aload_n hx hb dL_law_313 rfl (lv_at hl 0 rfl) ?_
  refine lv_iload hx hb dL_law_314 (lv_at hl 4 rfl) ?_
  refine z_iconst hx hb dL_law_316 ?_
  refine z_iadd hx hb dL_law_317 ?_
  refine z_sld (b := b) hx hb hX hbl hbA hS (6 * j + 1) (by omega) (by omega) hL dL_law_318 ?_
  refine lv_aload_n hx hb dL_law_319 rfl (lv_at hl 3 rfl) ?_
  refine zl_call (vx_runSW (hh := [(0, 9, 12, 13)]) (As := [.ref (ad (4, 0)), .int (zI ((xs (6 * j + 1)).toInt)), .ref (ad (18, 0))]) (rest := []) CF (W_length l hl9 D cI cW cP cJ ad ar xl np xp xz pg o ((xs (6 * j + 1)).toInt) hY (zI_rng _) (fun q : Nat => s.heap.size ≤ q) H.size) (vx_cwSW 3 hts gL_law_L_length rfl rfl rfl (by decide +kernel) ⟨Nat.le_of_ble_eq_true rfl, Nat.le_of_ble_eq_true rfl⟩) (zl_preW hH hK hXT hS hA) rfl rfl hl.1 rfl (lv_room (Nat.le_of_ble_eq_true rfl)) dL_law_320 ⟨by show 30 + 2 * j + 2 ≤ 601024; omega, by show 1500 + 70 * j + 70 ≤ 7293034; omega⟩) hH hS hA (cells' := 30 + 2 * j + 2) (slots' := 1500 + 70 * j + 70) rfl rfl (fun u H locs hp hH hS => ?_)
  obtain ⟨k1, o1, c1, ar1⟩ := u
  have hk1 : k1 = kRow ((xs (6 * j + 1)).toInt) := hp.1
  have hkr : 0 ≤ kRow ((xs (6 * j + 1)).toInt) ∧ kRow ((xs (6 * j + 1)).toInt) ≤ 3 := kRow_r
  have hH : zHs D (zYK np) (zY cI cW cP cJ ad ar1 c1 np xp xz pg o1) (zM cI md xe xl xp xz xr xm np th) (fun q : Nat => s.heap.size ≤ q) H := hH
  refine lv_istore (lv' := [(5, .int (zI k1)), (0, .ref b), (1, .ref (ad (4, 0))), (2, .ref (md 0)), (3, .ref (ad (18, 0))), (4, .int (zI (6 * (j : Int))))]) hx hb dL_law_323 hl (by decide) rfl (fun ls hl => ?_)
  have hl := lv_sub hl [1, 2, 3, 4, 5, 0] rfl
  have hl : lv_has ls 7 [(0, .ref b), (1, .ref (ad (4, 0))), (2, .ref (md 0)), (3, .ref (ad (18, 0))), (4, .int (zI (6 * (j : Int)))), (5, .int (zI k1))] := hl
  refine lv_aload_n hx hb dL_law_325 rfl (lv_at hl 2 rfl) ?_
  refine lv_aload_n hx hb dL_law_326 rfl (lv_at hl 0 rfl) ?_
  refine lv_iload hx hb dL_law_327 (lv_at hl 4 rfl) ?_
  refine z_iconst hx hb dL_law_329 ?_
  refine z_iadd hx hb dL_law_330 ?_
  refine z_sld (b := b) hx hb hX hbl hbA hS (6 * j + 1) (by omega) (by omega) hL dL_law_331 ?_
  refine zl_mcall (va_runV (As := [.int (zI ((xs (6 * j + 1)).toInt))]) (rest := []) CF (M_length l D cI md xe xl xp xz xr xm np th ((xs (6 * j + 1)).toInt) hM (zI_rng _) H.size) (cwV 1 hts gL_law_X6_length rfl rfl rfl (by decide +kernel) ⟨Nat.le_of_ble_eq_true rfl, Nat.le_of_ble_eq_true rfl⟩) (z_preV (va_recv hK hH.2.2.2.1 (ci := 5) (q0 := 0) rfl rfl) hH.2.2.2.1 hH.2.2.2.2.1 z_nilP (fun i j x y _ h => by simp at h) (hK.sub (tys' := [(cI, .int)]) [0] rfl)) rfl rfl hl.1 rfl (lv_room (Nat.le_of_ble_eq_true rfl)) dL_law_332 ⟨by show 30 + 2 * j + 2 + 0 ≤ 601024; omega, by show 1500 + 70 * j + 70 + 0 ≤ 7293034; omega⟩) hH hS hA (cells' := 30 + 2 * j + 2) (slots' := 1500 + 70 * j + 70) rfl rfl (fun w H locs hm hH hS => ?_)
  obtain ⟨b1, xe1, xl1, xm1⟩ := w
  have hH : zHs D (zYK np) (zY cI cW cP cJ ad ar1 c1 np xp xz pg o1) (zM cI md xe1 xl1 xp xz xr xm1 np (kRow ((xs (6 * j + 1)).toInt))) (fun q : Nat => s.heap.size ≤ q) H := hH
  obtain ⟨e1, hY1, hM1, hag1⟩ := z_inv hY hM hag hp hm (fun q => q.2.elim)
  have e1 : xl1 = c1 := e1
  subst e1
  have hY1 : zYI ad ar1 xl1 np xp xz pg := hY1
  have hM1 : zMI xe1 xl1 xp xz xr np := hM1
  have hag1 : zSame ar1 xe1 xl1 := hag1
  refine lv_istore (lv' := [(6, .int (zI b1)), (0, .ref b), (1, .ref (ad (4, 0))), (2, .ref (md 0)), (3, .ref (ad (18, 0))), (4, .int (zI (6 * (j : Int)))), (5, .int (zI k1))]) hx hb dL_law_335 hl (by decide) rfl (fun ls hl => ?_)
  have hl := lv_sub hl [1, 2, 3, 4, 5, 6, 0] rfl
  have hl : lv_has ls 7 [(0, .ref b), (1, .ref (ad (4, 0))), (2, .ref (md 0)), (3, .ref (ad (18, 0))), (4, .int (zI (6 * (j : Int)))), (5, .int (zI k1)), (6, .int (zI b1))] := hl
  refine lv_aload_n hx hb dL_law_337 rfl (lv_at hl 2 rfl) ?_
  have hRc := hH.2.2.2.1.sub (ws' := [(md 0, .inr (5, [.ref (md 1), .ref (md 2), .ref (md 3), .ref (md 4), .ref (md 5), .int (zI np), .ref (md 6), .int (zI (kRow ((xs (6 * j + 1)).toInt)))]))]) [0] rfl
  refine zl_ro (va_runV (As := []) (rest := []) CF (c_X6_thrown l D (md 0) (md 1) (md 2) (md 3) (md 4) (md 5) (md 6) np (kRow ((xs (6 * j + 1)).toInt)) H.size) (cwV 0 hts gL_law_X6_thrown rfl rfl rfl (by decide +kernel) ⟨Nat.le_of_ble_eq_true rfl, Nat.le_of_ble_eq_true rfl⟩) (z_preV (va_recv hK hH.2.2.2.1 (ci := 5) (q0 := 0) rfl rfl) z_nilP (z_nilD (A := (fun q : Nat => s.heap.size ≤ q))) hRc z_noX (hK.sub (tys' := []) [] rfl)) rfl rfl hl.1 rfl (lv_room (Nat.le_of_ble_eq_true rfl)) dL_law_338 ⟨by show 30 + 2 * j + 2 + 0 ≤ 601024; omega, by show 1500 + 70 * j + 70 + 0 ≤ 7293034; omega⟩) hH hS hA (cells' := 30 + 2 * j + 2) (slots' := 1500 + 70 * j + 70) rfl rfl (fun H locs hH hS => ?_)
  refine lv_iload hx hb dL_law_341 (lv_at hl 5 rfl) ?_
  refine lv_icmp_eq (tgt := 348) hx hb dL_law_343 (by decide) (fun _ => ?_) (fun q => absurd (congrArg zI hk1.symm) q)
  refine lv_iload hx hb dL_law_348 (lv_at hl 5 rfl) ?_
  refine z_if_ne (tgt := 365) hx hb dL_law_350 (by decide) (by omega) (fun c_0 => ?_) (fun c_0 => ?_)
  · refine lv_goto (tgt := 1253) hx hb dL_law_365 (by decide) ?_
    exact kk _ _ _ ⟨ad, ar1, md, xe1, xl1, xp, xz, xr, xm1, np, kRow ((xs (6 * j + 1)).toInt), pg, o1, hY1, hM1, hag1, hH, hS, lv_sub hl [0, 1, 2, 3, 4] rfl⟩
  · have hk0 := hk1.symm.trans c_0
    have ho : o1 0 = zL (xl ((xs (6 * j + 1)).toInt)) := (hp.2.1 hk0).1
    have hvr : -2147483648 ≤ xl ((xs (6 * j + 1)).toInt) ∧ xl ((xs (6 * j + 1)).toInt) ≤ 2147483647 := (hp.2.1 hk0).2
    have hbv : b1 = xl ((xs (6 * j + 1)).toInt) := (hm.1 hk0).trans (rfl)
    refine lv_aload_n hx hb dL_law_353 rfl (lv_at hl 3 rfl) ?_
    refine z_iconst hx hb dL_law_354 ?_
    have hPo := zf_sub hH.1 [(18, 0)] (List.forall_mem_cons.mpr ⟨zKf 18 rfl rfl, fun _ h => absurd h List.not_mem_nil⟩) (wc := [(ad (18, 0), .inl (cJ, 1, .inr (.inl o1)))]) rfl
    refine va_lald (f := o1) hx hb hK hPo 0 3 rfl rfl (z_in (i := 0) (n := 1) ⟨Int.le_refl _, by decide⟩ (by decide)) dL_law_355 ?_
    rw [show (zI 0).toNatClampNeg = 0 from by decide, ho]
    refine lv_iload hx hb dL_law_356 (lv_at hl 6 rfl) ?_
    refine z_eqI (b := xl ((xs (6 * j + 1)).toInt)) hbv ?_
    refine z_i2l hx hb dL_law_358 hvr ?_
    refine z_lcmp hx hb dL_law_359 (by omega) (by omega) ?_
    refine z_ifC_eq (tgt := 365) hx hb dL_law_360 (by decide) (fun _ => ?_) (fun q => absurd rfl q)
    refine lv_goto (tgt := 1253) hx hb dL_law_365 (by decide) ?_
    exact kk _ _ _ ⟨ad, ar1, md, xe1, xl1, xp, xz, xr, xm1, np, kRow ((xs (6 * j + 1)).toInt), pg, o1, hY1, hM1, hag1, hH, hS, lv_sub hl [0, 1, 2, 3, 4] rfl⟩

set_option maxHeartbeats 4000000 in
set_option maxRecDepth 100000 in
theorem L_case_at {p : Program} {l : Launch} {e : Env} {s : State} {m : MethodId} {below : List Frame} {meth : Method} {c : Code} {b L : Nat} {xs : Nat → Int32} {D : va_G} {cI cW cP cJ : ClassId} {Q : State → Prop} (hC : zLX p l s m meth c b L xs D cI cW cP cJ) (j : Nat) (hj : 6 * j + 6 ≤ L) (H : Heap) (locs : List Loc) (ls : Array Slot) (hI : zLI s b D cI cW cP cJ (6 * (j : Int)) H locs ls) (kk : ∀ (H : Heap) (locs : List Loc) (ls : Array Slot), zLI s b D cI cW cP cJ (6 * (j : Int)) H locs ls → W p l e room_1 s m #[Value.ref b] below meth c H locs (30 + 2 * j + 2) (1500 + 70 * j + 70) Q (F0 m 1253 ls [])) : W p l e room_1 s m #[Value.ref b] below meth c H locs (30 + 2 * j) (1500 + 70 * j) Q (F0 m 368 ls []) := by
  obtain ⟨hx, hb, hml, hown, hts, hX, hbl, hL, hl9, hXT, hK⟩ := hC
  obtain ⟨ad, ar, md, xe, xl, xp, xz, xr, xm, np, th, pg, o, hY, hM, hag, hH, hS, hl⟩ := hI
  have hA : ∀ q : Nat, s.heap.size ≤ q → (fun q : Nat => s.heap.size ≤ q) q := fun _ h => h
  have hbA : ¬ (fun q : Nat => s.heap.size ≤ q) b := Nat.not_le.mpr hbl
  have CF : CallFix p m c code 7 s #[Value.ref b] wsL_law RL := ⟨hx, hb, hml, hown, hts⟩
  refine lv_aload_n hx hb dL_law_368 rfl (lv_at hl 1 rfl) ?_
  refine lv_aload_n hx hb dL_law_369 rfl (lv_at hl 0 rfl) ?_
  refine lv_iload hx hb dL_law_370 (lv_at hl 4 rfl) ?_
  refine z_iconst hx hb dL_law_372 ?_
  refine z_iadd hx hb dL_law_373 ?_
  refine z_sld (b := b) hx hb hX hbl hbA hS (6 * j + 1) (by omega) (by omega) hL dL_law_374 ?_
  refine lv_aload_n hx hb dL_law_375 rfl (lv_at hl 0 rfl) ?_
  refine lv_iload hx hb dL_law_376 (lv_at hl 4 rfl) ?_
  refine z_iconst hx hb dL_law_378 ?_
  refine z_iadd hx hb dL_law_379 ?_
  refine z_sld (b := b) hx hb hX hbl hbA hS (6 * j + 2) (by omega) (by omega) hL dL_law_380 ?_
  refine lv_aload_n hx hb dL_law_381 rfl (lv_at hl 3 rfl) ?_
  refine zl_call (vx_runSW (hh := [(0, 10, 13, 13)]) (As := [.ref (ad (4, 0)), .int (zI ((xs (6 * j + 1)).toInt)), .int (zI ((xs (6 * j + 2)).toInt)), .ref (ad (18, 0))]) (rest := []) CF (W_at l hl9 D cI cW cP cJ ad ar xl np xp xz pg o ((xs (6 * j + 1)).toInt) ((xs (6 * j + 2)).toInt) hY (zI_rng _) (zI_rng _) (fun q : Nat => s.heap.size ≤ q) H.size) (vx_cwSW 4 hts gL_law_L_at rfl rfl rfl (by decide +kernel) ⟨Nat.le_of_ble_eq_true rfl, Nat.le_of_ble_eq_true rfl⟩) (zl_preW hH hK hXT hS hA) rfl rfl hl.1 rfl (lv_room (Nat.le_of_ble_eq_true rfl)) dL_law_382 ⟨by show 30 + 2 * j + 2 ≤ 601024; omega, by show 1500 + 70 * j + 70 ≤ 7293034; omega⟩) hH hS hA (cells' := 30 + 2 * j + 2) (slots' := 1500 + 70 * j + 70) rfl rfl (fun u H locs hp hH hS => ?_)
  obtain ⟨k1, o1, c1, ar1⟩ := u
  have hk1 : k1 = kAt xl ((xs (6 * j + 1)).toInt) ((xs (6 * j + 2)).toInt) := hp.1
  have hkr : 0 ≤ kAt xl ((xs (6 * j + 1)).toInt) ((xs (6 * j + 2)).toInt) ∧ kAt xl ((xs (6 * j + 1)).toInt) ((xs (6 * j + 2)).toInt) ≤ 3 := kAt_r
  have hH : zHs D (zYK np) (zY cI cW cP cJ ad ar1 c1 np xp xz pg o1) (zM cI md xe xl xp xz xr xm np th) (fun q : Nat => s.heap.size ≤ q) H := hH
  refine lv_istore (lv' := [(5, .int (zI k1)), (0, .ref b), (1, .ref (ad (4, 0))), (2, .ref (md 0)), (3, .ref (ad (18, 0))), (4, .int (zI (6 * (j : Int))))]) hx hb dL_law_385 hl (by decide) rfl (fun ls hl => ?_)
  have hl := lv_sub hl [1, 2, 3, 4, 5, 0] rfl
  have hl : lv_has ls 7 [(0, .ref b), (1, .ref (ad (4, 0))), (2, .ref (md 0)), (3, .ref (ad (18, 0))), (4, .int (zI (6 * (j : Int)))), (5, .int (zI k1))] := hl
  refine lv_aload_n hx hb dL_law_387 rfl (lv_at hl 2 rfl) ?_
  refine lv_aload_n hx hb dL_law_388 rfl (lv_at hl 0 rfl) ?_
  refine lv_iload hx hb dL_law_389 (lv_at hl 4 rfl) ?_
  refine z_iconst hx hb dL_law_391 ?_
  refine z_iadd hx hb dL_law_392 ?_
  refine z_sld (b := b) hx hb hX hbl hbA hS (6 * j + 1) (by omega) (by omega) hL dL_law_393 ?_
  refine lv_aload_n hx hb dL_law_394 rfl (lv_at hl 0 rfl) ?_
  refine lv_iload hx hb dL_law_395 (lv_at hl 4 rfl) ?_
  refine z_iconst hx hb dL_law_397 ?_
  refine z_iadd hx hb dL_law_398 ?_
  refine z_sld (b := b) hx hb hX hbl hbA hS (6 * j + 2) (by omega) (by omega) hL dL_law_399 ?_
  refine zl_mcall (va_runV (As := [.int (zI ((xs (6 * j + 1)).toInt)), .int (zI ((xs (6 * j + 2)).toInt))]) (rest := []) CF (M_at l D cI md xe xl xp xz xr xm np th ((xs (6 * j + 1)).toInt) ((xs (6 * j + 2)).toInt) hM (zI_rng _) (zI_rng _) H.size) (cwV 2 hts gL_law_X6_at rfl rfl rfl (by decide +kernel) ⟨Nat.le_of_ble_eq_true rfl, Nat.le_of_ble_eq_true rfl⟩) (z_preV (va_recv hK hH.2.2.2.1 (ci := 5) (q0 := 0) rfl rfl) hH.2.2.2.1 hH.2.2.2.2.1 z_nilP (fun i j x y _ h => by simp at h) (hK.sub (tys' := [(cI, .int)]) [0] rfl)) rfl rfl hl.1 rfl (lv_room (Nat.le_of_ble_eq_true rfl)) dL_law_400 ⟨by show 30 + 2 * j + 2 + 0 ≤ 601024; omega, by show 1500 + 70 * j + 70 + 0 ≤ 7293034; omega⟩) hH hS hA (cells' := 30 + 2 * j + 2) (slots' := 1500 + 70 * j + 70) rfl rfl (fun w H locs hm hH hS => ?_)
  obtain ⟨b1, xe1, xl1, xm1⟩ := w
  have hH : zHs D (zYK np) (zY cI cW cP cJ ad ar1 c1 np xp xz pg o1) (zM cI md xe1 xl1 xp xz xr xm1 np (kAt xl ((xs (6 * j + 1)).toInt) ((xs (6 * j + 2)).toInt))) (fun q : Nat => s.heap.size ≤ q) H := hH
  obtain ⟨e1, hY1, hM1, hag1⟩ := z_inv hY hM hag hp hm (fun q => q.2.elim)
  have e1 : xl1 = c1 := e1
  subst e1
  have hY1 : zYI ad ar1 xl1 np xp xz pg := hY1
  have hM1 : zMI xe1 xl1 xp xz xr np := hM1
  have hag1 : zSame ar1 xe1 xl1 := hag1
  refine lv_istore (lv' := [(6, .int (zI b1)), (0, .ref b), (1, .ref (ad (4, 0))), (2, .ref (md 0)), (3, .ref (ad (18, 0))), (4, .int (zI (6 * (j : Int)))), (5, .int (zI k1))]) hx hb dL_law_403 hl (by decide) rfl (fun ls hl => ?_)
  have hl := lv_sub hl [1, 2, 3, 4, 5, 6, 0] rfl
  have hl : lv_has ls 7 [(0, .ref b), (1, .ref (ad (4, 0))), (2, .ref (md 0)), (3, .ref (ad (18, 0))), (4, .int (zI (6 * (j : Int)))), (5, .int (zI k1)), (6, .int (zI b1))] := hl
  refine lv_aload_n hx hb dL_law_405 rfl (lv_at hl 2 rfl) ?_
  have hRc := hH.2.2.2.1.sub (ws' := [(md 0, .inr (5, [.ref (md 1), .ref (md 2), .ref (md 3), .ref (md 4), .ref (md 5), .int (zI np), .ref (md 6), .int (zI (kAt xl ((xs (6 * j + 1)).toInt) ((xs (6 * j + 2)).toInt)))]))]) [0] rfl
  refine zl_ro (va_runV (As := []) (rest := []) CF (c_X6_thrown l D (md 0) (md 1) (md 2) (md 3) (md 4) (md 5) (md 6) np (kAt xl ((xs (6 * j + 1)).toInt) ((xs (6 * j + 2)).toInt)) H.size) (cwV 0 hts gL_law_X6_thrown rfl rfl rfl (by decide +kernel) ⟨Nat.le_of_ble_eq_true rfl, Nat.le_of_ble_eq_true rfl⟩) (z_preV (va_recv hK hH.2.2.2.1 (ci := 5) (q0 := 0) rfl rfl) z_nilP (z_nilD (A := (fun q : Nat => s.heap.size ≤ q))) hRc z_noX (hK.sub (tys' := []) [] rfl)) rfl rfl hl.1 rfl (lv_room (Nat.le_of_ble_eq_true rfl)) dL_law_406 ⟨by show 30 + 2 * j + 2 + 0 ≤ 601024; omega, by show 1500 + 70 * j + 70 + 0 ≤ 7293034; omega⟩) hH hS hA (cells' := 30 + 2 * j + 2) (slots' := 1500 + 70 * j + 70) rfl rfl (fun H locs hH hS => ?_)
  refine lv_iload hx hb dL_law_409 (lv_at hl 5 rfl) ?_
  refine lv_icmp_eq (tgt := 416) hx hb dL_law_411 (by decide) (fun _ => ?_) (fun q => absurd (congrArg zI hk1.symm) q)
  refine lv_iload hx hb dL_law_416 (lv_at hl 5 rfl) ?_
  refine z_if_ne (tgt := 433) hx hb dL_law_418 (by decide) (by omega) (fun c_0 => ?_) (fun c_0 => ?_)
  · refine lv_goto (tgt := 1253) hx hb dL_law_433 (by decide) ?_
    exact kk _ _ _ ⟨ad, ar1, md, xe1, xl1, xp, xz, xr, xm1, np, kAt xl ((xs (6 * j + 1)).toInt) ((xs (6 * j + 2)).toInt), pg, o1, hY1, hM1, hag1, hH, hS, lv_sub hl [0, 1, 2, 3, 4] rfl⟩
  · have hk0 := hk1.symm.trans c_0
    have ho : o1 0 = zL (zG ar xl ((xs (6 * j + 1)).toInt) ((xs (6 * j + 2)).toInt)) := (hp.2.1 hk0).1
    have hvr : -2147483648 ≤ zG ar xl ((xs (6 * j + 1)).toInt) ((xs (6 * j + 2)).toInt) ∧ zG ar xl ((xs (6 * j + 1)).toInt) ((xs (6 * j + 2)).toInt) ≤ 2147483647 := (hp.2.1 hk0).2
    have hbv : b1 = zG ar xl ((xs (6 * j + 1)).toInt) ((xs (6 * j + 2)).toInt) := (hm.1 hk0).trans ((show zG ar xl ((xs (6 * j + 1)).toInt) ((xs (6 * j + 2)).toInt) = _ from by rw [hag _ (kAt_0 hk0).1]).symm)
    refine lv_aload_n hx hb dL_law_421 rfl (lv_at hl 3 rfl) ?_
    refine z_iconst hx hb dL_law_422 ?_
    have hPo := zf_sub hH.1 [(18, 0)] (List.forall_mem_cons.mpr ⟨zKf 18 rfl rfl, fun _ h => absurd h List.not_mem_nil⟩) (wc := [(ad (18, 0), .inl (cJ, 1, .inr (.inl o1)))]) rfl
    refine va_lald (f := o1) hx hb hK hPo 0 3 rfl rfl (z_in (i := 0) (n := 1) ⟨Int.le_refl _, by decide⟩ (by decide)) dL_law_423 ?_
    rw [show (zI 0).toNatClampNeg = 0 from by decide, ho]
    refine lv_iload hx hb dL_law_424 (lv_at hl 6 rfl) ?_
    refine z_eqI (b := zG ar xl ((xs (6 * j + 1)).toInt) ((xs (6 * j + 2)).toInt)) hbv ?_
    refine z_i2l hx hb dL_law_426 hvr ?_
    refine z_lcmp hx hb dL_law_427 (by omega) (by omega) ?_
    refine z_ifC_eq (tgt := 433) hx hb dL_law_428 (by decide) (fun _ => ?_) (fun q => absurd rfl q)
    refine lv_goto (tgt := 1253) hx hb dL_law_433 (by decide) ?_
    exact kk _ _ _ ⟨ad, ar1, md, xe1, xl1, xp, xz, xr, xm1, np, kAt xl ((xs (6 * j + 1)).toInt) ((xs (6 * j + 2)).toInt), pg, o1, hY1, hM1, hag1, hH, hS, lv_sub hl [0, 1, 2, 3, 4] rfl⟩

set_option maxHeartbeats 4000000 in
set_option maxRecDepth 100000 in
theorem L_case_plans {p : Program} {l : Launch} {e : Env} {s : State} {m : MethodId} {below : List Frame} {meth : Method} {c : Code} {b L : Nat} {xs : Nat → Int32} {D : va_G} {cI cW cP cJ : ClassId} {Q : State → Prop} (hC : zLX p l s m meth c b L xs D cI cW cP cJ) (j : Nat) (hj : 6 * j + 6 ≤ L) (H : Heap) (locs : List Loc) (ls : Array Slot) (hI : zLI s b D cI cW cP cJ (6 * (j : Int)) H locs ls) (kk : ∀ (H : Heap) (locs : List Loc) (ls : Array Slot), zLI s b D cI cW cP cJ (6 * (j : Int)) H locs ls → W p l e room_1 s m #[Value.ref b] below meth c H locs (30 + 2 * j + 2) (1500 + 70 * j + 70) Q (F0 m 1253 ls [])) : W p l e room_1 s m #[Value.ref b] below meth c H locs (30 + 2 * j) (1500 + 70 * j) Q (F0 m 504 ls []) := by
  obtain ⟨hx, hb, hml, hown, hts, hX, hbl, hL, hl9, hXT, hK⟩ := hC
  obtain ⟨ad, ar, md, xe, xl, xp, xz, xr, xm, np, th, pg, o, hY, hM, hag, hH, hS, hl⟩ := hI
  have hA : ∀ q : Nat, s.heap.size ≤ q → (fun q : Nat => s.heap.size ≤ q) q := fun _ h => h
  have hbA : ¬ (fun q : Nat => s.heap.size ≤ q) b := Nat.not_le.mpr hbl
  have CF : CallFix p m c code 7 s #[Value.ref b] wsL_law RL := ⟨hx, hb, hml, hown, hts⟩
  refine lv_aload_n hx hb dL_law_504 rfl (lv_at hl 1 rfl) ?_
  have hRc := zf_sub hH.1 [(4, 0)] (List.forall_mem_cons.mpr ⟨zKf 4 rfl rfl, fun _ h => absurd h List.not_mem_nil⟩) (wc := [(ad (4, 0), .inr (4, [.ref (ad (5, 0)), .ref (ad (6, 0)), .int (zI np), .ref (ad (7, 0)), .ref (ad (8, 0)), .ref (ad (9, 0)), .ref (ad (10, 0))]))]) rfl
  refine zl_ro (va_runV (As := []) (rest := []) CF (c_X5_plans l D (ad (4, 0)) (ad (5, 0)) (ad (6, 0)) np (ad (7, 0)) (ad (8, 0)) (ad (9, 0)) (ad (10, 0)) H.size) (cwV 0 hts gL_law_X5_plans rfl rfl rfl (by decide +kernel) ⟨Nat.le_of_ble_eq_true rfl, Nat.le_of_ble_eq_true rfl⟩) (z_preV (va_recv hK hRc (ci := 4) (q0 := 0) rfl rfl) z_nilP (z_nilD (A := (fun q : Nat => s.heap.size ≤ q))) hRc z_noX (hK.sub (tys' := []) [] rfl)) rfl rfl hl.1 rfl (lv_room (Nat.le_of_ble_eq_true rfl)) dL_law_505 ⟨by show 30 + 2 * j + 0 ≤ 601024; omega, by show 1500 + 70 * j + 0 ≤ 7293034; omega⟩) hH hS hA (cells' := 30 + 2 * j) (slots' := 1500 + 70 * j) rfl rfl (fun H locs hH hS => ?_)
  refine lv_aload_n hx hb dL_law_508 rfl (lv_at hl 2 rfl) ?_
  refine zl_mcall (va_runV (As := []) (rest := [.int (zI np)]) CF (M_plans l D cI md xe xl xp xz xr xm np th H.size) (cwV 0 hts gL_law_X6_plans rfl rfl rfl (by decide +kernel) ⟨Nat.le_of_ble_eq_true rfl, Nat.le_of_ble_eq_true rfl⟩) (z_preV (va_recv hK hH.2.2.2.1 (ci := 5) (q0 := 0) rfl rfl) hH.2.2.2.1 hH.2.2.2.2.1 z_nilP (fun i j x y _ h => by simp at h) (hK.sub (tys' := []) [] rfl)) rfl rfl hl.1 rfl (lv_room (Nat.le_of_ble_eq_true rfl)) dL_law_509 ⟨by show 30 + 2 * j + 0 ≤ 601024; omega, by show 1500 + 70 * j + 0 ≤ 7293034; omega⟩) hH hS hA (cells' := 30 + 2 * j) (slots' := 1500 + 70 * j) rfl rfl (fun w H locs hm hH hS => ?_)
  have hH : zHs D (zYK np) (zY cI cW cP cJ ad ar xl np xp xz pg o) (zM cI md xe xl xp xz xr xm np 0) (fun q : Nat => s.heap.size ≤ q) H := hH
  refine lv_icmp_eq (tgt := 1253) hx hb dL_law_512 (by decide) (fun _ => ?_) (fun q => absurd rfl q)
  refine W.widen (k := 30 + 2 * j + 2) (n := 1500 + 70 * j + 70) (by omega) (by omega) ?_
  exact kk _ _ _ ⟨ad, ar, md, xe, xl, xp, xz, xr, xm, np, 0, pg, o, hY, hM, hag, hH, hS, lv_sub hl [0, 1, 2, 3, 4] rfl⟩

set_option maxHeartbeats 4000000 in
set_option maxRecDepth 100000 in
theorem L_case_root {p : Program} {l : Launch} {e : Env} {s : State} {m : MethodId} {below : List Frame} {meth : Method} {c : Code} {b L : Nat} {xs : Nat → Int32} {D : va_G} {cI cW cP cJ : ClassId} {Q : State → Prop} (hC : zLX p l s m meth c b L xs D cI cW cP cJ) (j : Nat) (hj : 6 * j + 6 ≤ L) (H : Heap) (locs : List Loc) (ls : Array Slot) (hI : zLI s b D cI cW cP cJ (6 * (j : Int)) H locs ls) (kk : ∀ (H : Heap) (locs : List Loc) (ls : Array Slot), zLI s b D cI cW cP cJ (6 * (j : Int)) H locs ls → W p l e room_1 s m #[Value.ref b] below meth c H locs (30 + 2 * j + 2) (1500 + 70 * j + 70) Q (F0 m 1253 ls [])) : W p l e room_1 s m #[Value.ref b] below meth c H locs (30 + 2 * j) (1500 + 70 * j) Q (F0 m 517 ls []) := by
  obtain ⟨hx, hb, hml, hown, hts, hX, hbl, hL, hl9, hXT, hK⟩ := hC
  obtain ⟨ad, ar, md, xe, xl, xp, xz, xr, xm, np, th, pg, o, hY, hM, hag, hH, hS, hl⟩ := hI
  have hA : ∀ q : Nat, s.heap.size ≤ q → (fun q : Nat => s.heap.size ≤ q) q := fun _ h => h
  have hbA : ¬ (fun q : Nat => s.heap.size ≤ q) b := Nat.not_le.mpr hbl
  have CF : CallFix p m c code 7 s #[Value.ref b] wsL_law RL := ⟨hx, hb, hml, hown, hts⟩
  refine lv_aload_n hx hb dL_law_517 rfl (lv_at hl 1 rfl) ?_
  refine lv_aload_n hx hb dL_law_518 rfl (lv_at hl 0 rfl) ?_
  refine lv_iload hx hb dL_law_519 (lv_at hl 4 rfl) ?_
  refine z_iconst hx hb dL_law_521 ?_
  refine z_iadd hx hb dL_law_522 ?_
  refine z_sld (b := b) hx hb hX hbl hbA hS (6 * j + 1) (by omega) (by omega) hL dL_law_523 ?_
  refine lv_aload_n hx hb dL_law_524 rfl (lv_at hl 3 rfl) ?_
  refine zl_call (vx_runSW (hh := [(0, 9, 12, 13)]) (As := [.ref (ad (4, 0)), .int (zI ((xs (6 * j + 1)).toInt)), .ref (ad (18, 0))]) (rest := []) CF (W_root l hl9 D cI cW cP cJ ad ar xl np xp xz pg o ((xs (6 * j + 1)).toInt) hY (zI_rng _) (fun q : Nat => s.heap.size ≤ q) H.size) (vx_cwSW 3 hts gL_law_L_root rfl rfl rfl (by decide +kernel) ⟨Nat.le_of_ble_eq_true rfl, Nat.le_of_ble_eq_true rfl⟩) (zl_preW hH hK hXT hS hA) rfl rfl hl.1 rfl (lv_room (Nat.le_of_ble_eq_true rfl)) dL_law_525 ⟨by show 30 + 2 * j + 2 ≤ 601024; omega, by show 1500 + 70 * j + 70 ≤ 7293034; omega⟩) hH hS hA (cells' := 30 + 2 * j + 2) (slots' := 1500 + 70 * j + 70) rfl rfl (fun u H locs hp hH hS => ?_)
  obtain ⟨k1, o1, c1, ar1⟩ := u
  have hk1 : k1 = kPl np ((xs (6 * j + 1)).toInt) := hp.1
  have hkr : 0 ≤ kPl np ((xs (6 * j + 1)).toInt) ∧ kPl np ((xs (6 * j + 1)).toInt) ≤ 3 := kPl_r
  have hH : zHs D (zYK np) (zY cI cW cP cJ ad ar1 c1 np xp xz pg o1) (zM cI md xe xl xp xz xr xm np th) (fun q : Nat => s.heap.size ≤ q) H := hH
  refine lv_istore (lv' := [(5, .int (zI k1)), (0, .ref b), (1, .ref (ad (4, 0))), (2, .ref (md 0)), (3, .ref (ad (18, 0))), (4, .int (zI (6 * (j : Int))))]) hx hb dL_law_528 hl (by decide) rfl (fun ls hl => ?_)
  have hl := lv_sub hl [1, 2, 3, 4, 5, 0] rfl
  have hl : lv_has ls 7 [(0, .ref b), (1, .ref (ad (4, 0))), (2, .ref (md 0)), (3, .ref (ad (18, 0))), (4, .int (zI (6 * (j : Int)))), (5, .int (zI k1))] := hl
  refine lv_aload_n hx hb dL_law_530 rfl (lv_at hl 2 rfl) ?_
  refine lv_aload_n hx hb dL_law_531 rfl (lv_at hl 0 rfl) ?_
  refine lv_iload hx hb dL_law_532 (lv_at hl 4 rfl) ?_
  refine z_iconst hx hb dL_law_534 ?_
  refine z_iadd hx hb dL_law_535 ?_
  refine z_sld (b := b) hx hb hX hbl hbA hS (6 * j + 1) (by omega) (by omega) hL dL_law_536 ?_
  refine zl_mcall (va_runV (As := [.int (zI ((xs (6 * j + 1)).toInt))]) (rest := []) CF (M_root l D cI md xe xl xp xz xr xm np th ((xs (6 * j + 1)).toInt) hM (zI_rng _) H.size) (cwV 1 hts gL_law_X6_root rfl rfl rfl (by decide +kernel) ⟨Nat.le_of_ble_eq_true rfl, Nat.le_of_ble_eq_true rfl⟩) (z_preV (va_recv hK hH.2.2.2.1 (ci := 5) (q0 := 0) rfl rfl) hH.2.2.2.1 hH.2.2.2.2.1 z_nilP (fun i j x y _ h => by simp at h) (hK.sub (tys' := [(cI, .int)]) [0] rfl)) rfl rfl hl.1 rfl (lv_room (Nat.le_of_ble_eq_true rfl)) dL_law_537 ⟨by show 30 + 2 * j + 2 + 0 ≤ 601024; omega, by show 1500 + 70 * j + 70 + 0 ≤ 7293034; omega⟩) hH hS hA (cells' := 30 + 2 * j + 2) (slots' := 1500 + 70 * j + 70) rfl rfl (fun w H locs hm hH hS => ?_)
  obtain ⟨b1, xe1, xl1, xm1⟩ := w
  have hH : zHs D (zYK np) (zY cI cW cP cJ ad ar1 c1 np xp xz pg o1) (zM cI md xe1 xl1 xp xz xr xm1 np (kPl np ((xs (6 * j + 1)).toInt))) (fun q : Nat => s.heap.size ≤ q) H := hH
  obtain ⟨e1, hY1, hM1, hag1⟩ := z_inv hY hM hag hp hm (fun q => q.2.elim)
  have e1 : xl1 = c1 := e1
  subst e1
  have hY1 : zYI ad ar1 xl1 np xp xz pg := hY1
  have hM1 : zMI xe1 xl1 xp xz xr np := hM1
  have hag1 : zSame ar1 xe1 xl1 := hag1
  refine lv_istore (lv' := [(6, .int (zI b1)), (0, .ref b), (1, .ref (ad (4, 0))), (2, .ref (md 0)), (3, .ref (ad (18, 0))), (4, .int (zI (6 * (j : Int)))), (5, .int (zI k1))]) hx hb dL_law_540 hl (by decide) rfl (fun ls hl => ?_)
  have hl := lv_sub hl [1, 2, 3, 4, 5, 6, 0] rfl
  have hl : lv_has ls 7 [(0, .ref b), (1, .ref (ad (4, 0))), (2, .ref (md 0)), (3, .ref (ad (18, 0))), (4, .int (zI (6 * (j : Int)))), (5, .int (zI k1)), (6, .int (zI b1))] := hl
  refine lv_aload_n hx hb dL_law_542 rfl (lv_at hl 2 rfl) ?_
  have hRc := hH.2.2.2.1.sub (ws' := [(md 0, .inr (5, [.ref (md 1), .ref (md 2), .ref (md 3), .ref (md 4), .ref (md 5), .int (zI np), .ref (md 6), .int (zI (kPl np ((xs (6 * j + 1)).toInt)))]))]) [0] rfl
  refine zl_ro (va_runV (As := []) (rest := []) CF (c_X6_thrown l D (md 0) (md 1) (md 2) (md 3) (md 4) (md 5) (md 6) np (kPl np ((xs (6 * j + 1)).toInt)) H.size) (cwV 0 hts gL_law_X6_thrown rfl rfl rfl (by decide +kernel) ⟨Nat.le_of_ble_eq_true rfl, Nat.le_of_ble_eq_true rfl⟩) (z_preV (va_recv hK hH.2.2.2.1 (ci := 5) (q0 := 0) rfl rfl) z_nilP (z_nilD (A := (fun q : Nat => s.heap.size ≤ q))) hRc z_noX (hK.sub (tys' := []) [] rfl)) rfl rfl hl.1 rfl (lv_room (Nat.le_of_ble_eq_true rfl)) dL_law_543 ⟨by show 30 + 2 * j + 2 + 0 ≤ 601024; omega, by show 1500 + 70 * j + 70 + 0 ≤ 7293034; omega⟩) hH hS hA (cells' := 30 + 2 * j + 2) (slots' := 1500 + 70 * j + 70) rfl rfl (fun H locs hH hS => ?_)
  refine lv_iload hx hb dL_law_546 (lv_at hl 5 rfl) ?_
  refine lv_icmp_eq (tgt := 553) hx hb dL_law_548 (by decide) (fun _ => ?_) (fun q => absurd (congrArg zI hk1.symm) q)
  refine lv_iload hx hb dL_law_553 (lv_at hl 5 rfl) ?_
  refine z_if_ne (tgt := 570) hx hb dL_law_555 (by decide) (by omega) (fun c_0 => ?_) (fun c_0 => ?_)
  · refine lv_goto (tgt := 1253) hx hb dL_law_570 (by decide) ?_
    exact kk _ _ _ ⟨ad, ar1, md, xe1, xl1, xp, xz, xr, xm1, np, kPl np ((xs (6 * j + 1)).toInt), pg, o1, hY1, hM1, hag1, hH, hS, lv_sub hl [0, 1, 2, 3, 4] rfl⟩
  · have hk0 := hk1.symm.trans c_0
    have ho : o1 0 = zL (zRoot (xp ((xs (6 * j + 1)).toInt)) (xz ((xs (6 * j + 1)).toInt))) := (hp.2.1 hk0).1
    have hvr : -2147483648 ≤ zRoot (xp ((xs (6 * j + 1)).toInt)) (xz ((xs (6 * j + 1)).toInt)) ∧ zRoot (xp ((xs (6 * j + 1)).toInt)) (xz ((xs (6 * j + 1)).toInt)) ≤ 2147483647 := (hp.2.1 hk0).2
    have hbv : b1 = zRoot (xp ((xs (6 * j + 1)).toInt)) (xz ((xs (6 * j + 1)).toInt)) := (hm.1 hk0).trans (rfl)
    refine lv_aload_n hx hb dL_law_558 rfl (lv_at hl 3 rfl) ?_
    refine z_iconst hx hb dL_law_559 ?_
    have hPo := zf_sub hH.1 [(18, 0)] (List.forall_mem_cons.mpr ⟨zKf 18 rfl rfl, fun _ h => absurd h List.not_mem_nil⟩) (wc := [(ad (18, 0), .inl (cJ, 1, .inr (.inl o1)))]) rfl
    refine va_lald (f := o1) hx hb hK hPo 0 3 rfl rfl (z_in (i := 0) (n := 1) ⟨Int.le_refl _, by decide⟩ (by decide)) dL_law_560 ?_
    rw [show (zI 0).toNatClampNeg = 0 from by decide, ho]
    refine lv_iload hx hb dL_law_561 (lv_at hl 6 rfl) ?_
    refine z_eqI (b := zRoot (xp ((xs (6 * j + 1)).toInt)) (xz ((xs (6 * j + 1)).toInt))) hbv ?_
    refine z_i2l hx hb dL_law_563 hvr ?_
    refine z_lcmp hx hb dL_law_564 (by omega) (by omega) ?_
    refine z_ifC_eq (tgt := 570) hx hb dL_law_565 (by decide) (fun _ => ?_) (fun q => absurd rfl q)
    refine lv_goto (tgt := 1253) hx hb dL_law_570 (by decide) ?_
    exact kk _ _ _ ⟨ad, ar1, md, xe1, xl1, xp, xz, xr, xm1, np, kPl np ((xs (6 * j + 1)).toInt), pg, o1, hY1, hM1, hag1, hH, hS, lv_sub hl [0, 1, 2, 3, 4] rfl⟩

set_option maxHeartbeats 4000000 in
set_option maxRecDepth 100000 in
theorem L_case_ways {p : Program} {l : Launch} {e : Env} {s : State} {m : MethodId} {below : List Frame} {meth : Method} {c : Code} {b L : Nat} {xs : Nat → Int32} {D : va_G} {cI cW cP cJ : ClassId} {Q : State → Prop} (hC : zLX p l s m meth c b L xs D cI cW cP cJ) (j : Nat) (hj : 6 * j + 6 ≤ L) (H : Heap) (locs : List Loc) (ls : Array Slot) (hI : zLI s b D cI cW cP cJ (6 * (j : Int)) H locs ls) (kk : ∀ (H : Heap) (locs : List Loc) (ls : Array Slot), zLI s b D cI cW cP cJ (6 * (j : Int)) H locs ls → W p l e room_1 s m #[Value.ref b] below meth c H locs (30 + 2 * j + 2) (1500 + 70 * j + 70) Q (F0 m 1253 ls [])) : W p l e room_1 s m #[Value.ref b] below meth c H locs (30 + 2 * j) (1500 + 70 * j) Q (F0 m 573 ls []) := by
  obtain ⟨hx, hb, hml, hown, hts, hX, hbl, hL, hl9, hXT, hK⟩ := hC
  obtain ⟨ad, ar, md, xe, xl, xp, xz, xr, xm, np, th, pg, o, hY, hM, hag, hH, hS, hl⟩ := hI
  have hA : ∀ q : Nat, s.heap.size ≤ q → (fun q : Nat => s.heap.size ≤ q) q := fun _ h => h
  have hbA : ¬ (fun q : Nat => s.heap.size ≤ q) b := Nat.not_le.mpr hbl
  have CF : CallFix p m c code 7 s #[Value.ref b] wsL_law RL := ⟨hx, hb, hml, hown, hts⟩
  refine lv_aload_n hx hb dL_law_573 rfl (lv_at hl 1 rfl) ?_
  refine lv_aload_n hx hb dL_law_574 rfl (lv_at hl 0 rfl) ?_
  refine lv_iload hx hb dL_law_575 (lv_at hl 4 rfl) ?_
  refine z_iconst hx hb dL_law_577 ?_
  refine z_iadd hx hb dL_law_578 ?_
  refine z_sld (b := b) hx hb hX hbl hbA hS (6 * j + 1) (by omega) (by omega) hL dL_law_579 ?_
  refine lv_aload_n hx hb dL_law_580 rfl (lv_at hl 3 rfl) ?_
  refine zl_call (vx_runSW (hh := [(0, 9, 12, 13)]) (As := [.ref (ad (4, 0)), .int (zI ((xs (6 * j + 1)).toInt)), .ref (ad (18, 0))]) (rest := []) CF (W_ways l hl9 D cI cW cP cJ ad ar xl np xp xz pg o ((xs (6 * j + 1)).toInt) hY (zI_rng _) (fun q : Nat => s.heap.size ≤ q) H.size) (vx_cwSW 3 hts gL_law_L_ways rfl rfl rfl (by decide +kernel) ⟨Nat.le_of_ble_eq_true rfl, Nat.le_of_ble_eq_true rfl⟩) (zl_preW hH hK hXT hS hA) rfl rfl hl.1 rfl (lv_room (Nat.le_of_ble_eq_true rfl)) dL_law_581 ⟨by show 30 + 2 * j + 2 ≤ 601024; omega, by show 1500 + 70 * j + 70 ≤ 7293034; omega⟩) hH hS hA (cells' := 30 + 2 * j + 2) (slots' := 1500 + 70 * j + 70) rfl rfl (fun u H locs hp hH hS => ?_)
  obtain ⟨k1, o1, c1, ar1⟩ := u
  have hk1 : k1 = kPl np ((xs (6 * j + 1)).toInt) := hp.1
  have hkr : 0 ≤ kPl np ((xs (6 * j + 1)).toInt) ∧ kPl np ((xs (6 * j + 1)).toInt) ≤ 3 := kPl_r
  have hH : zHs D (zYK np) (zY cI cW cP cJ ad ar1 c1 np xp xz pg o1) (zM cI md xe xl xp xz xr xm np th) (fun q : Nat => s.heap.size ≤ q) H := hH
  refine lv_istore (lv' := [(5, .int (zI k1)), (0, .ref b), (1, .ref (ad (4, 0))), (2, .ref (md 0)), (3, .ref (ad (18, 0))), (4, .int (zI (6 * (j : Int))))]) hx hb dL_law_584 hl (by decide) rfl (fun ls hl => ?_)
  have hl := lv_sub hl [1, 2, 3, 4, 5, 0] rfl
  have hl : lv_has ls 7 [(0, .ref b), (1, .ref (ad (4, 0))), (2, .ref (md 0)), (3, .ref (ad (18, 0))), (4, .int (zI (6 * (j : Int)))), (5, .int (zI k1))] := hl
  refine lv_aload_n hx hb dL_law_586 rfl (lv_at hl 2 rfl) ?_
  refine lv_aload_n hx hb dL_law_587 rfl (lv_at hl 0 rfl) ?_
  refine lv_iload hx hb dL_law_588 (lv_at hl 4 rfl) ?_
  refine z_iconst hx hb dL_law_590 ?_
  refine z_iadd hx hb dL_law_591 ?_
  refine z_sld (b := b) hx hb hX hbl hbA hS (6 * j + 1) (by omega) (by omega) hL dL_law_592 ?_
  refine zl_mcall (va_runV (As := [.int (zI ((xs (6 * j + 1)).toInt))]) (rest := []) CF (M_ways l D cI md xe xl xp xz xr xm np th ((xs (6 * j + 1)).toInt) hM (zI_rng _) H.size) (cwV 1 hts gL_law_X6_ways rfl rfl rfl (by decide +kernel) ⟨Nat.le_of_ble_eq_true rfl, Nat.le_of_ble_eq_true rfl⟩) (z_preV (va_recv hK hH.2.2.2.1 (ci := 5) (q0 := 0) rfl rfl) hH.2.2.2.1 hH.2.2.2.2.1 z_nilP (fun i j x y _ h => by simp at h) (hK.sub (tys' := [(cI, .int)]) [0] rfl)) rfl rfl hl.1 rfl (lv_room (Nat.le_of_ble_eq_true rfl)) dL_law_593 ⟨by show 30 + 2 * j + 2 + 0 ≤ 601024; omega, by show 1500 + 70 * j + 70 + 0 ≤ 7293034; omega⟩) hH hS hA (cells' := 30 + 2 * j + 2) (slots' := 1500 + 70 * j + 70) rfl rfl (fun w H locs hm hH hS => ?_)
  obtain ⟨b1, xe1, xl1, xm1⟩ := w
  have hH : zHs D (zYK np) (zY cI cW cP cJ ad ar1 c1 np xp xz pg o1) (zM cI md xe1 xl1 xp xz xr xm1 np (kPl np ((xs (6 * j + 1)).toInt))) (fun q : Nat => s.heap.size ≤ q) H := hH
  obtain ⟨e1, hY1, hM1, hag1⟩ := z_inv hY hM hag hp hm (fun q => q.2.elim)
  have e1 : xl1 = c1 := e1
  subst e1
  have hY1 : zYI ad ar1 xl1 np xp xz pg := hY1
  have hM1 : zMI xe1 xl1 xp xz xr np := hM1
  have hag1 : zSame ar1 xe1 xl1 := hag1
  refine lv_istore (lv' := [(6, .int (zI b1)), (0, .ref b), (1, .ref (ad (4, 0))), (2, .ref (md 0)), (3, .ref (ad (18, 0))), (4, .int (zI (6 * (j : Int)))), (5, .int (zI k1))]) hx hb dL_law_596 hl (by decide) rfl (fun ls hl => ?_)
  have hl := lv_sub hl [1, 2, 3, 4, 5, 6, 0] rfl
  have hl : lv_has ls 7 [(0, .ref b), (1, .ref (ad (4, 0))), (2, .ref (md 0)), (3, .ref (ad (18, 0))), (4, .int (zI (6 * (j : Int)))), (5, .int (zI k1)), (6, .int (zI b1))] := hl
  refine lv_aload_n hx hb dL_law_598 rfl (lv_at hl 2 rfl) ?_
  have hRc := hH.2.2.2.1.sub (ws' := [(md 0, .inr (5, [.ref (md 1), .ref (md 2), .ref (md 3), .ref (md 4), .ref (md 5), .int (zI np), .ref (md 6), .int (zI (kPl np ((xs (6 * j + 1)).toInt)))]))]) [0] rfl
  refine zl_ro (va_runV (As := []) (rest := []) CF (c_X6_thrown l D (md 0) (md 1) (md 2) (md 3) (md 4) (md 5) (md 6) np (kPl np ((xs (6 * j + 1)).toInt)) H.size) (cwV 0 hts gL_law_X6_thrown rfl rfl rfl (by decide +kernel) ⟨Nat.le_of_ble_eq_true rfl, Nat.le_of_ble_eq_true rfl⟩) (z_preV (va_recv hK hH.2.2.2.1 (ci := 5) (q0 := 0) rfl rfl) z_nilP (z_nilD (A := (fun q : Nat => s.heap.size ≤ q))) hRc z_noX (hK.sub (tys' := []) [] rfl)) rfl rfl hl.1 rfl (lv_room (Nat.le_of_ble_eq_true rfl)) dL_law_599 ⟨by show 30 + 2 * j + 2 + 0 ≤ 601024; omega, by show 1500 + 70 * j + 70 + 0 ≤ 7293034; omega⟩) hH hS hA (cells' := 30 + 2 * j + 2) (slots' := 1500 + 70 * j + 70) rfl rfl (fun H locs hH hS => ?_)
  refine lv_iload hx hb dL_law_602 (lv_at hl 5 rfl) ?_
  refine lv_icmp_eq (tgt := 609) hx hb dL_law_604 (by decide) (fun _ => ?_) (fun q => absurd (congrArg zI hk1.symm) q)
  refine lv_iload hx hb dL_law_609 (lv_at hl 5 rfl) ?_
  refine z_if_ne (tgt := 626) hx hb dL_law_611 (by decide) (by omega) (fun c_0 => ?_) (fun c_0 => ?_)
  · refine lv_goto (tgt := 1253) hx hb dL_law_626 (by decide) ?_
    exact kk _ _ _ ⟨ad, ar1, md, xe1, xl1, xp, xz, xr, xm1, np, kPl np ((xs (6 * j + 1)).toInt), pg, o1, hY1, hM1, hag1, hH, hS, lv_sub hl [0, 1, 2, 3, 4] rfl⟩
  · have hk0 := hk1.symm.trans c_0
    have ho : o1 0 = zL (wset (xz ((xs (6 * j + 1)).toInt))) := (hp.2.1 hk0).1
    have hvr : -2147483648 ≤ wset (xz ((xs (6 * j + 1)).toInt)) ∧ wset (xz ((xs (6 * j + 1)).toInt)) ≤ 2147483647 := (hp.2.1 hk0).2
    have hbv : b1 = wset (xz ((xs (6 * j + 1)).toInt)) := (hm.1 hk0).trans (rfl)
    refine lv_aload_n hx hb dL_law_614 rfl (lv_at hl 3 rfl) ?_
    refine z_iconst hx hb dL_law_615 ?_
    have hPo := zf_sub hH.1 [(18, 0)] (List.forall_mem_cons.mpr ⟨zKf 18 rfl rfl, fun _ h => absurd h List.not_mem_nil⟩) (wc := [(ad (18, 0), .inl (cJ, 1, .inr (.inl o1)))]) rfl
    refine va_lald (f := o1) hx hb hK hPo 0 3 rfl rfl (z_in (i := 0) (n := 1) ⟨Int.le_refl _, by decide⟩ (by decide)) dL_law_616 ?_
    rw [show (zI 0).toNatClampNeg = 0 from by decide, ho]
    refine lv_iload hx hb dL_law_617 (lv_at hl 6 rfl) ?_
    refine z_eqI (b := wset (xz ((xs (6 * j + 1)).toInt))) hbv ?_
    refine z_i2l hx hb dL_law_619 hvr ?_
    refine z_lcmp hx hb dL_law_620 (by omega) (by omega) ?_
    refine z_ifC_eq (tgt := 626) hx hb dL_law_621 (by decide) (fun _ => ?_) (fun q => absurd rfl q)
    refine lv_goto (tgt := 1253) hx hb dL_law_626 (by decide) ?_
    exact kk _ _ _ ⟨ad, ar1, md, xe1, xl1, xp, xz, xr, xm1, np, kPl np ((xs (6 * j + 1)).toInt), pg, o1, hY1, hM1, hag1, hH, hS, lv_sub hl [0, 1, 2, 3, 4] rfl⟩

set_option maxHeartbeats 4000000 in
set_option maxRecDepth 100000 in
theorem L_case_forward {p : Program} {l : Launch} {e : Env} {s : State} {m : MethodId} {below : List Frame} {meth : Method} {c : Code} {b L : Nat} {xs : Nat → Int32} {D : va_G} {cI cW cP cJ : ClassId} {Q : State → Prop} (hC : zLX p l s m meth c b L xs D cI cW cP cJ) (j : Nat) (hj : 6 * j + 6 ≤ L) (H : Heap) (locs : List Loc) (ls : Array Slot) (hI : zLI s b D cI cW cP cJ (6 * (j : Int)) H locs ls) (kk : ∀ (H : Heap) (locs : List Loc) (ls : Array Slot), zLI s b D cI cW cP cJ (6 * (j : Int)) H locs ls → W p l e room_1 s m #[Value.ref b] below meth c H locs (30 + 2 * j + 2) (1500 + 70 * j + 70) Q (F0 m 1253 ls [])) : W p l e room_1 s m #[Value.ref b] below meth c H locs (30 + 2 * j) (1500 + 70 * j) Q (F0 m 629 ls []) := by
  obtain ⟨hx, hb, hml, hown, hts, hX, hbl, hL, hl9, hXT, hK⟩ := hC
  obtain ⟨ad, ar, md, xe, xl, xp, xz, xr, xm, np, th, pg, o, hY, hM, hag, hH, hS, hl⟩ := hI
  have hA : ∀ q : Nat, s.heap.size ≤ q → (fun q : Nat => s.heap.size ≤ q) q := fun _ h => h
  have hbA : ¬ (fun q : Nat => s.heap.size ≤ q) b := Nat.not_le.mpr hbl
  have CF : CallFix p m c code 7 s #[Value.ref b] wsL_law RL := ⟨hx, hb, hml, hown, hts⟩
  refine lv_aload_n hx hb dL_law_629 rfl (lv_at hl 1 rfl) ?_
  refine lv_aload_n hx hb dL_law_630 rfl (lv_at hl 0 rfl) ?_
  refine lv_iload hx hb dL_law_631 (lv_at hl 4 rfl) ?_
  refine z_iconst hx hb dL_law_633 ?_
  refine z_iadd hx hb dL_law_634 ?_
  refine z_sld (b := b) hx hb hX hbl hbA hS (6 * j + 1) (by omega) (by omega) hL dL_law_635 ?_
  refine lv_aload_n hx hb dL_law_636 rfl (lv_at hl 0 rfl) ?_
  refine lv_iload hx hb dL_law_637 (lv_at hl 4 rfl) ?_
  refine z_iconst hx hb dL_law_639 ?_
  refine z_iadd hx hb dL_law_640 ?_
  refine z_sld (b := b) hx hb hX hbl hbA hS (6 * j + 2) (by omega) (by omega) hL dL_law_641 ?_
  refine lv_aload_n hx hb dL_law_642 rfl (lv_at hl 0 rfl) ?_
  refine lv_iload hx hb dL_law_643 (lv_at hl 4 rfl) ?_
  refine z_iconst hx hb dL_law_645 ?_
  refine z_iadd hx hb dL_law_646 ?_
  refine z_sld (b := b) hx hb hX hbl hbA hS (6 * j + 3) (by omega) (by omega) hL dL_law_647 ?_
  refine lv_aload_n hx hb dL_law_648 rfl (lv_at hl 3 rfl) ?_
  refine zl_call (vx_runSW (hh := [(0, 12, 15, 13), (0, 12, 19, 15), (0, 12, 23, 17)]) (As := [.ref (ad (4, 0)), .int (zI ((xs (6 * j + 1)).toInt)), .int (zI ((xs (6 * j + 2)).toInt)), .int (zI ((xs (6 * j + 3)).toInt)), .ref (ad (18, 0))]) (rest := []) CF (W_forward l hl9 D cI cW cP cJ ad ar xl np xp xz pg o ((xs (6 * j + 1)).toInt) ((xs (6 * j + 2)).toInt) ((xs (6 * j + 3)).toInt) hY (zI_rng _) (zI_rng _) (zI_rng _) (fun q : Nat => s.heap.size ≤ q) H.size) (vx_cwSW 5 hts gL_law_L_forward rfl rfl rfl (by decide +kernel) ⟨Nat.le_of_ble_eq_true rfl, Nat.le_of_ble_eq_true rfl⟩) (zl_preW hH hK hXT hS hA) rfl rfl hl.1 rfl (lv_room (Nat.le_of_ble_eq_true rfl)) dL_law_649 ⟨by show 30 + 2 * j + 2 ≤ 601024; omega, by show 1500 + 70 * j + 70 ≤ 7293034; omega⟩) hH hS hA (cells' := 30 + 2 * j + 2) (slots' := 1500 + 70 * j + 70) rfl rfl (fun u H locs hp hH hS => ?_)
  obtain ⟨k1, o1, c1, ar1⟩ := u
  have hk1 : k1 = kTr xl np xz ((xs (6 * j + 1)).toInt) ((xs (6 * j + 2)).toInt) ((xs (6 * j + 3)).toInt) := hp.1
  have hkr : 0 ≤ kTr xl np xz ((xs (6 * j + 1)).toInt) ((xs (6 * j + 2)).toInt) ((xs (6 * j + 3)).toInt) ∧ kTr xl np xz ((xs (6 * j + 1)).toInt) ((xs (6 * j + 2)).toInt) ((xs (6 * j + 3)).toInt) ≤ 3 := kTr_r
  have hH : zHs D (zYK np) (zY cI cW cP cJ ad ar1 c1 np xp xz pg o1) (zM cI md xe xl xp xz xr xm np th) (fun q : Nat => s.heap.size ≤ q) H := hH
  refine lv_istore (lv' := [(5, .int (zI k1)), (0, .ref b), (1, .ref (ad (4, 0))), (2, .ref (md 0)), (3, .ref (ad (18, 0))), (4, .int (zI (6 * (j : Int))))]) hx hb dL_law_652 hl (by decide) rfl (fun ls hl => ?_)
  have hl := lv_sub hl [1, 2, 3, 4, 5, 0] rfl
  have hl : lv_has ls 7 [(0, .ref b), (1, .ref (ad (4, 0))), (2, .ref (md 0)), (3, .ref (ad (18, 0))), (4, .int (zI (6 * (j : Int)))), (5, .int (zI k1))] := hl
  refine lv_aload_n hx hb dL_law_654 rfl (lv_at hl 2 rfl) ?_
  refine lv_aload_n hx hb dL_law_655 rfl (lv_at hl 0 rfl) ?_
  refine lv_iload hx hb dL_law_656 (lv_at hl 4 rfl) ?_
  refine z_iconst hx hb dL_law_658 ?_
  refine z_iadd hx hb dL_law_659 ?_
  refine z_sld (b := b) hx hb hX hbl hbA hS (6 * j + 1) (by omega) (by omega) hL dL_law_660 ?_
  refine lv_aload_n hx hb dL_law_661 rfl (lv_at hl 0 rfl) ?_
  refine lv_iload hx hb dL_law_662 (lv_at hl 4 rfl) ?_
  refine z_iconst hx hb dL_law_664 ?_
  refine z_iadd hx hb dL_law_665 ?_
  refine z_sld (b := b) hx hb hX hbl hbA hS (6 * j + 2) (by omega) (by omega) hL dL_law_666 ?_
  refine lv_aload_n hx hb dL_law_667 rfl (lv_at hl 0 rfl) ?_
  refine lv_iload hx hb dL_law_668 (lv_at hl 4 rfl) ?_
  refine z_iconst hx hb dL_law_670 ?_
  refine z_iadd hx hb dL_law_671 ?_
  refine z_sld (b := b) hx hb hX hbl hbA hS (6 * j + 3) (by omega) (by omega) hL dL_law_672 ?_
  refine zl_mcall (va_runV (As := [.int (zI ((xs (6 * j + 1)).toInt)), .int (zI ((xs (6 * j + 2)).toInt)), .int (zI ((xs (6 * j + 3)).toInt))]) (rest := []) CF (M_forward l D cI md xe xl xp xz xr xm np th ((xs (6 * j + 1)).toInt) ((xs (6 * j + 2)).toInt) ((xs (6 * j + 3)).toInt) hM (zI_rng _) (zI_rng _) (zI_rng _) H.size) (cwV 3 hts gL_law_X6_forward rfl rfl rfl (by decide +kernel) ⟨Nat.le_of_ble_eq_true rfl, Nat.le_of_ble_eq_true rfl⟩) (z_preV (va_recv hK hH.2.2.2.1 (ci := 5) (q0 := 0) rfl rfl) hH.2.2.2.1 hH.2.2.2.2.1 z_nilP (fun i j x y _ h => by simp at h) (hK.sub (tys' := [(cI, .int)]) [0] rfl)) rfl rfl hl.1 rfl (lv_room (Nat.le_of_ble_eq_true rfl)) dL_law_673 ⟨by show 30 + 2 * j + 2 + 0 ≤ 601024; omega, by show 1500 + 70 * j + 70 + 0 ≤ 7293034; omega⟩) hH hS hA (cells' := 30 + 2 * j + 2) (slots' := 1500 + 70 * j + 70) rfl rfl (fun w H locs hm hH hS => ?_)
  obtain ⟨b1, xe1, xl1, xm1⟩ := w
  have hH : zHs D (zYK np) (zY cI cW cP cJ ad ar1 c1 np xp xz pg o1) (zM cI md xe1 xl1 xp xz xr xm1 np (kTr xl np xz ((xs (6 * j + 1)).toInt) ((xs (6 * j + 2)).toInt) ((xs (6 * j + 3)).toInt))) (fun q : Nat => s.heap.size ≤ q) H := hH
  obtain ⟨e1, hY1, hM1, hag1⟩ := z_inv hY hM hag hp hm (fun q => v_fw hM hag q.1)
  have e1 : xl1 = c1 := e1
  subst e1
  have hY1 : zYI ad ar1 xl1 np xp xz pg := hY1
  have hM1 : zMI xe1 xl1 xp xz xr np := hM1
  have hag1 : zSame ar1 xe1 xl1 := hag1
  refine lv_istore (lv' := [(6, .int (zI b1)), (0, .ref b), (1, .ref (ad (4, 0))), (2, .ref (md 0)), (3, .ref (ad (18, 0))), (4, .int (zI (6 * (j : Int)))), (5, .int (zI k1))]) hx hb dL_law_676 hl (by decide) rfl (fun ls hl => ?_)
  have hl := lv_sub hl [1, 2, 3, 4, 5, 6, 0] rfl
  have hl : lv_has ls 7 [(0, .ref b), (1, .ref (ad (4, 0))), (2, .ref (md 0)), (3, .ref (ad (18, 0))), (4, .int (zI (6 * (j : Int)))), (5, .int (zI k1)), (6, .int (zI b1))] := hl
  refine lv_aload_n hx hb dL_law_678 rfl (lv_at hl 2 rfl) ?_
  have hRc := hH.2.2.2.1.sub (ws' := [(md 0, .inr (5, [.ref (md 1), .ref (md 2), .ref (md 3), .ref (md 4), .ref (md 5), .int (zI np), .ref (md 6), .int (zI (kTr xl np xz ((xs (6 * j + 1)).toInt) ((xs (6 * j + 2)).toInt) ((xs (6 * j + 3)).toInt)))]))]) [0] rfl
  refine zl_ro (va_runV (As := []) (rest := []) CF (c_X6_thrown l D (md 0) (md 1) (md 2) (md 3) (md 4) (md 5) (md 6) np (kTr xl np xz ((xs (6 * j + 1)).toInt) ((xs (6 * j + 2)).toInt) ((xs (6 * j + 3)).toInt)) H.size) (cwV 0 hts gL_law_X6_thrown rfl rfl rfl (by decide +kernel) ⟨Nat.le_of_ble_eq_true rfl, Nat.le_of_ble_eq_true rfl⟩) (z_preV (va_recv hK hH.2.2.2.1 (ci := 5) (q0 := 0) rfl rfl) z_nilP (z_nilD (A := (fun q : Nat => s.heap.size ≤ q))) hRc z_noX (hK.sub (tys' := []) [] rfl)) rfl rfl hl.1 rfl (lv_room (Nat.le_of_ble_eq_true rfl)) dL_law_679 ⟨by show 30 + 2 * j + 2 + 0 ≤ 601024; omega, by show 1500 + 70 * j + 70 + 0 ≤ 7293034; omega⟩) hH hS hA (cells' := 30 + 2 * j + 2) (slots' := 1500 + 70 * j + 70) rfl rfl (fun H locs hH hS => ?_)
  refine lv_iload hx hb dL_law_682 (lv_at hl 5 rfl) ?_
  refine lv_icmp_eq (tgt := 689) hx hb dL_law_684 (by decide) (fun _ => ?_) (fun q => absurd (congrArg zI hk1.symm) q)
  refine lv_iload hx hb dL_law_689 (lv_at hl 5 rfl) ?_
  refine z_if_ne (tgt := 706) hx hb dL_law_691 (by decide) (by omega) (fun c_0 => ?_) (fun c_0 => ?_)
  · refine lv_goto (tgt := 1253) hx hb dL_law_706 (by decide) ?_
    exact kk _ _ _ ⟨ad, ar1, md, xe1, xl1, xp, xz, xr, xm1, np, kTr xl np xz ((xs (6 * j + 1)).toInt) ((xs (6 * j + 2)).toInt) ((xs (6 * j + 3)).toInt), pg, o1, hY1, hM1, hag1, hH, hS, lv_sub hl [0, 1, 2, 3, 4] rfl⟩
  · have hk0 := hk1.symm.trans c_0
    have ho : o1 0 = zL (vFw (xp ((xs (6 * j + 1)).toInt)) (xz ((xs (6 * j + 1)).toInt)) (fun y_ => zG ar xl ((xs (6 * j + 2)).toInt) y_ % xp ((xs (6 * j + 1)).toInt)) 0) := (hp.2.1 hk0).1
    have hvr : -2147483648 ≤ vFw (xp ((xs (6 * j + 1)).toInt)) (xz ((xs (6 * j + 1)).toInt)) (fun y_ => zG ar xl ((xs (6 * j + 2)).toInt) y_ % xp ((xs (6 * j + 1)).toInt)) 0 ∧ vFw (xp ((xs (6 * j + 1)).toInt)) (xz ((xs (6 * j + 1)).toInt)) (fun y_ => zG ar xl ((xs (6 * j + 2)).toInt) y_ % xp ((xs (6 * j + 1)).toInt)) 0 ≤ 2147483647 := (hp.2.1 hk0).2
    have hbv : b1 = vFw (xp ((xs (6 * j + 1)).toInt)) (xz ((xs (6 * j + 1)).toInt)) (fun y_ => zG ar xl ((xs (6 * j + 2)).toInt) y_ % xp ((xs (6 * j + 1)).toInt)) 0 := (hm.1 hk0).trans ((show vFw (xp ((xs (6 * j + 1)).toInt)) (xz ((xs (6 * j + 1)).toInt)) (fun y_ => zG ar xl ((xs (6 * j + 2)).toInt) y_ % xp ((xs (6 * j + 1)).toInt)) 0 = _ from by rw [hag _ (kTr_0 hk0).2.1]).symm)
    refine lv_aload_n hx hb dL_law_694 rfl (lv_at hl 3 rfl) ?_
    refine z_iconst hx hb dL_law_695 ?_
    have hPo := zf_sub hH.1 [(18, 0)] (List.forall_mem_cons.mpr ⟨zKf 18 rfl rfl, fun _ h => absurd h List.not_mem_nil⟩) (wc := [(ad (18, 0), .inl (cJ, 1, .inr (.inl o1)))]) rfl
    refine va_lald (f := o1) hx hb hK hPo 0 3 rfl rfl (z_in (i := 0) (n := 1) ⟨Int.le_refl _, by decide⟩ (by decide)) dL_law_696 ?_
    rw [show (zI 0).toNatClampNeg = 0 from by decide, ho]
    refine lv_iload hx hb dL_law_697 (lv_at hl 6 rfl) ?_
    refine z_eqI (b := vFw (xp ((xs (6 * j + 1)).toInt)) (xz ((xs (6 * j + 1)).toInt)) (fun y_ => zG ar xl ((xs (6 * j + 2)).toInt) y_ % xp ((xs (6 * j + 1)).toInt)) 0) hbv ?_
    refine z_i2l hx hb dL_law_699 hvr ?_
    refine z_lcmp hx hb dL_law_700 (by omega) (by omega) ?_
    refine z_ifC_eq (tgt := 706) hx hb dL_law_701 (by decide) (fun _ => ?_) (fun q => absurd rfl q)
    refine lv_goto (tgt := 1253) hx hb dL_law_706 (by decide) ?_
    exact kk _ _ _ ⟨ad, ar1, md, xe1, xl1, xp, xz, xr, xm1, np, kTr xl np xz ((xs (6 * j + 1)).toInt) ((xs (6 * j + 2)).toInt) ((xs (6 * j + 3)).toInt), pg, o1, hY1, hM1, hag1, hH, hS, lv_sub hl [0, 1, 2, 3, 4] rfl⟩

set_option maxHeartbeats 4000000 in
set_option maxRecDepth 100000 in
theorem L_case_backward {p : Program} {l : Launch} {e : Env} {s : State} {m : MethodId} {below : List Frame} {meth : Method} {c : Code} {b L : Nat} {xs : Nat → Int32} {D : va_G} {cI cW cP cJ : ClassId} {Q : State → Prop} (hC : zLX p l s m meth c b L xs D cI cW cP cJ) (j : Nat) (hj : 6 * j + 6 ≤ L) (H : Heap) (locs : List Loc) (ls : Array Slot) (hI : zLI s b D cI cW cP cJ (6 * (j : Int)) H locs ls) (kk : ∀ (H : Heap) (locs : List Loc) (ls : Array Slot), zLI s b D cI cW cP cJ (6 * (j : Int)) H locs ls → W p l e room_1 s m #[Value.ref b] below meth c H locs (30 + 2 * j + 2) (1500 + 70 * j + 70) Q (F0 m 1253 ls [])) : W p l e room_1 s m #[Value.ref b] below meth c H locs (30 + 2 * j) (1500 + 70 * j) Q (F0 m 709 ls []) := by
  obtain ⟨hx, hb, hml, hown, hts, hX, hbl, hL, hl9, hXT, hK⟩ := hC
  obtain ⟨ad, ar, md, xe, xl, xp, xz, xr, xm, np, th, pg, o, hY, hM, hag, hH, hS, hl⟩ := hI
  have hA : ∀ q : Nat, s.heap.size ≤ q → (fun q : Nat => s.heap.size ≤ q) q := fun _ h => h
  have hbA : ¬ (fun q : Nat => s.heap.size ≤ q) b := Nat.not_le.mpr hbl
  have CF : CallFix p m c code 7 s #[Value.ref b] wsL_law RL := ⟨hx, hb, hml, hown, hts⟩
  refine lv_aload_n hx hb dL_law_709 rfl (lv_at hl 1 rfl) ?_
  refine lv_aload_n hx hb dL_law_710 rfl (lv_at hl 0 rfl) ?_
  refine lv_iload hx hb dL_law_711 (lv_at hl 4 rfl) ?_
  refine z_iconst hx hb dL_law_713 ?_
  refine z_iadd hx hb dL_law_714 ?_
  refine z_sld (b := b) hx hb hX hbl hbA hS (6 * j + 1) (by omega) (by omega) hL dL_law_715 ?_
  refine lv_aload_n hx hb dL_law_716 rfl (lv_at hl 0 rfl) ?_
  refine lv_iload hx hb dL_law_717 (lv_at hl 4 rfl) ?_
  refine z_iconst hx hb dL_law_719 ?_
  refine z_iadd hx hb dL_law_720 ?_
  refine z_sld (b := b) hx hb hX hbl hbA hS (6 * j + 2) (by omega) (by omega) hL dL_law_721 ?_
  refine lv_aload_n hx hb dL_law_722 rfl (lv_at hl 0 rfl) ?_
  refine lv_iload hx hb dL_law_723 (lv_at hl 4 rfl) ?_
  refine z_iconst hx hb dL_law_725 ?_
  refine z_iadd hx hb dL_law_726 ?_
  refine z_sld (b := b) hx hb hX hbl hbA hS (6 * j + 3) (by omega) (by omega) hL dL_law_727 ?_
  refine lv_aload_n hx hb dL_law_728 rfl (lv_at hl 3 rfl) ?_
  refine zl_call (vx_runSW (hh := [(0, 12, 15, 13), (0, 12, 19, 15), (0, 12, 23, 17)]) (As := [.ref (ad (4, 0)), .int (zI ((xs (6 * j + 1)).toInt)), .int (zI ((xs (6 * j + 2)).toInt)), .int (zI ((xs (6 * j + 3)).toInt)), .ref (ad (18, 0))]) (rest := []) CF (W_backward l hl9 D cI cW cP cJ ad ar xl np xp xz pg o ((xs (6 * j + 1)).toInt) ((xs (6 * j + 2)).toInt) ((xs (6 * j + 3)).toInt) hY (zI_rng _) (zI_rng _) (zI_rng _) (fun q : Nat => s.heap.size ≤ q) H.size) (vx_cwSW 5 hts gL_law_L_backward rfl rfl rfl (by decide +kernel) ⟨Nat.le_of_ble_eq_true rfl, Nat.le_of_ble_eq_true rfl⟩) (zl_preW hH hK hXT hS hA) rfl rfl hl.1 rfl (lv_room (Nat.le_of_ble_eq_true rfl)) dL_law_729 ⟨by show 30 + 2 * j + 2 ≤ 601024; omega, by show 1500 + 70 * j + 70 ≤ 7293034; omega⟩) hH hS hA (cells' := 30 + 2 * j + 2) (slots' := 1500 + 70 * j + 70) rfl rfl (fun u H locs hp hH hS => ?_)
  obtain ⟨k1, o1, c1, ar1⟩ := u
  have hk1 : k1 = kTr xl np xz ((xs (6 * j + 1)).toInt) ((xs (6 * j + 2)).toInt) ((xs (6 * j + 3)).toInt) := hp.1
  have hkr : 0 ≤ kTr xl np xz ((xs (6 * j + 1)).toInt) ((xs (6 * j + 2)).toInt) ((xs (6 * j + 3)).toInt) ∧ kTr xl np xz ((xs (6 * j + 1)).toInt) ((xs (6 * j + 2)).toInt) ((xs (6 * j + 3)).toInt) ≤ 3 := kTr_r
  have hH : zHs D (zYK np) (zY cI cW cP cJ ad ar1 c1 np xp xz pg o1) (zM cI md xe xl xp xz xr xm np th) (fun q : Nat => s.heap.size ≤ q) H := hH
  refine lv_istore (lv' := [(5, .int (zI k1)), (0, .ref b), (1, .ref (ad (4, 0))), (2, .ref (md 0)), (3, .ref (ad (18, 0))), (4, .int (zI (6 * (j : Int))))]) hx hb dL_law_732 hl (by decide) rfl (fun ls hl => ?_)
  have hl := lv_sub hl [1, 2, 3, 4, 5, 0] rfl
  have hl : lv_has ls 7 [(0, .ref b), (1, .ref (ad (4, 0))), (2, .ref (md 0)), (3, .ref (ad (18, 0))), (4, .int (zI (6 * (j : Int)))), (5, .int (zI k1))] := hl
  refine lv_aload_n hx hb dL_law_734 rfl (lv_at hl 2 rfl) ?_
  refine lv_aload_n hx hb dL_law_735 rfl (lv_at hl 0 rfl) ?_
  refine lv_iload hx hb dL_law_736 (lv_at hl 4 rfl) ?_
  refine z_iconst hx hb dL_law_738 ?_
  refine z_iadd hx hb dL_law_739 ?_
  refine z_sld (b := b) hx hb hX hbl hbA hS (6 * j + 1) (by omega) (by omega) hL dL_law_740 ?_
  refine lv_aload_n hx hb dL_law_741 rfl (lv_at hl 0 rfl) ?_
  refine lv_iload hx hb dL_law_742 (lv_at hl 4 rfl) ?_
  refine z_iconst hx hb dL_law_744 ?_
  refine z_iadd hx hb dL_law_745 ?_
  refine z_sld (b := b) hx hb hX hbl hbA hS (6 * j + 2) (by omega) (by omega) hL dL_law_746 ?_
  refine lv_aload_n hx hb dL_law_747 rfl (lv_at hl 0 rfl) ?_
  refine lv_iload hx hb dL_law_748 (lv_at hl 4 rfl) ?_
  refine z_iconst hx hb dL_law_750 ?_
  refine z_iadd hx hb dL_law_751 ?_
  refine z_sld (b := b) hx hb hX hbl hbA hS (6 * j + 3) (by omega) (by omega) hL dL_law_752 ?_
  refine zl_mcall (va_runV (As := [.int (zI ((xs (6 * j + 1)).toInt)), .int (zI ((xs (6 * j + 2)).toInt)), .int (zI ((xs (6 * j + 3)).toInt))]) (rest := []) CF (M_backward l D cI md xe xl xp xz xr xm np th ((xs (6 * j + 1)).toInt) ((xs (6 * j + 2)).toInt) ((xs (6 * j + 3)).toInt) hM (zI_rng _) (zI_rng _) (zI_rng _) H.size) (cwV 3 hts gL_law_X6_backward rfl rfl rfl (by decide +kernel) ⟨Nat.le_of_ble_eq_true rfl, Nat.le_of_ble_eq_true rfl⟩) (z_preV (va_recv hK hH.2.2.2.1 (ci := 5) (q0 := 0) rfl rfl) hH.2.2.2.1 hH.2.2.2.2.1 z_nilP (fun i j x y _ h => by simp at h) (hK.sub (tys' := [(cI, .int)]) [0] rfl)) rfl rfl hl.1 rfl (lv_room (Nat.le_of_ble_eq_true rfl)) dL_law_753 ⟨by show 30 + 2 * j + 2 + 0 ≤ 601024; omega, by show 1500 + 70 * j + 70 + 0 ≤ 7293034; omega⟩) hH hS hA (cells' := 30 + 2 * j + 2) (slots' := 1500 + 70 * j + 70) rfl rfl (fun w H locs hm hH hS => ?_)
  obtain ⟨b1, xe1, xl1, xm1⟩ := w
  have hH : zHs D (zYK np) (zY cI cW cP cJ ad ar1 c1 np xp xz pg o1) (zM cI md xe1 xl1 xp xz xr xm1 np (kTr xl np xz ((xs (6 * j + 1)).toInt) ((xs (6 * j + 2)).toInt) ((xs (6 * j + 3)).toInt))) (fun q : Nat => s.heap.size ≤ q) H := hH
  obtain ⟨e1, hY1, hM1, hag1⟩ := z_inv hY hM hag hp hm (fun q => v_bk hM hag q.1)
  have e1 : xl1 = c1 := e1
  subst e1
  have hY1 : zYI ad ar1 xl1 np xp xz pg := hY1
  have hM1 : zMI xe1 xl1 xp xz xr np := hM1
  have hag1 : zSame ar1 xe1 xl1 := hag1
  refine lv_istore (lv' := [(6, .int (zI b1)), (0, .ref b), (1, .ref (ad (4, 0))), (2, .ref (md 0)), (3, .ref (ad (18, 0))), (4, .int (zI (6 * (j : Int)))), (5, .int (zI k1))]) hx hb dL_law_756 hl (by decide) rfl (fun ls hl => ?_)
  have hl := lv_sub hl [1, 2, 3, 4, 5, 6, 0] rfl
  have hl : lv_has ls 7 [(0, .ref b), (1, .ref (ad (4, 0))), (2, .ref (md 0)), (3, .ref (ad (18, 0))), (4, .int (zI (6 * (j : Int)))), (5, .int (zI k1)), (6, .int (zI b1))] := hl
  refine lv_aload_n hx hb dL_law_758 rfl (lv_at hl 2 rfl) ?_
  have hRc := hH.2.2.2.1.sub (ws' := [(md 0, .inr (5, [.ref (md 1), .ref (md 2), .ref (md 3), .ref (md 4), .ref (md 5), .int (zI np), .ref (md 6), .int (zI (kTr xl np xz ((xs (6 * j + 1)).toInt) ((xs (6 * j + 2)).toInt) ((xs (6 * j + 3)).toInt)))]))]) [0] rfl
  refine zl_ro (va_runV (As := []) (rest := []) CF (c_X6_thrown l D (md 0) (md 1) (md 2) (md 3) (md 4) (md 5) (md 6) np (kTr xl np xz ((xs (6 * j + 1)).toInt) ((xs (6 * j + 2)).toInt) ((xs (6 * j + 3)).toInt)) H.size) (cwV 0 hts gL_law_X6_thrown rfl rfl rfl (by decide +kernel) ⟨Nat.le_of_ble_eq_true rfl, Nat.le_of_ble_eq_true rfl⟩) (z_preV (va_recv hK hH.2.2.2.1 (ci := 5) (q0 := 0) rfl rfl) z_nilP (z_nilD (A := (fun q : Nat => s.heap.size ≤ q))) hRc z_noX (hK.sub (tys' := []) [] rfl)) rfl rfl hl.1 rfl (lv_room (Nat.le_of_ble_eq_true rfl)) dL_law_759 ⟨by show 30 + 2 * j + 2 + 0 ≤ 601024; omega, by show 1500 + 70 * j + 70 + 0 ≤ 7293034; omega⟩) hH hS hA (cells' := 30 + 2 * j + 2) (slots' := 1500 + 70 * j + 70) rfl rfl (fun H locs hH hS => ?_)
  refine lv_iload hx hb dL_law_762 (lv_at hl 5 rfl) ?_
  refine lv_icmp_eq (tgt := 769) hx hb dL_law_764 (by decide) (fun _ => ?_) (fun q => absurd (congrArg zI hk1.symm) q)
  refine lv_iload hx hb dL_law_769 (lv_at hl 5 rfl) ?_
  refine z_if_ne (tgt := 786) hx hb dL_law_771 (by decide) (by omega) (fun c_0 => ?_) (fun c_0 => ?_)
  · refine lv_goto (tgt := 1253) hx hb dL_law_786 (by decide) ?_
    exact kk _ _ _ ⟨ad, ar1, md, xe1, xl1, xp, xz, xr, xm1, np, kTr xl np xz ((xs (6 * j + 1)).toInt) ((xs (6 * j + 2)).toInt) ((xs (6 * j + 3)).toInt), pg, o1, hY1, hM1, hag1, hH, hS, lv_sub hl [0, 1, 2, 3, 4] rfl⟩
  · have hk0 := hk1.symm.trans c_0
    have ho : o1 0 = zL (vBk (xp ((xs (6 * j + 1)).toInt)) (xz ((xs (6 * j + 1)).toInt)) (fun y_ => zG ar xl ((xs (6 * j + 2)).toInt) y_ % xp ((xs (6 * j + 1)).toInt)) 0) := (hp.2.1 hk0).1
    have hvr : -2147483648 ≤ vBk (xp ((xs (6 * j + 1)).toInt)) (xz ((xs (6 * j + 1)).toInt)) (fun y_ => zG ar xl ((xs (6 * j + 2)).toInt) y_ % xp ((xs (6 * j + 1)).toInt)) 0 ∧ vBk (xp ((xs (6 * j + 1)).toInt)) (xz ((xs (6 * j + 1)).toInt)) (fun y_ => zG ar xl ((xs (6 * j + 2)).toInt) y_ % xp ((xs (6 * j + 1)).toInt)) 0 ≤ 2147483647 := (hp.2.1 hk0).2
    have hbv : b1 = vBk (xp ((xs (6 * j + 1)).toInt)) (xz ((xs (6 * j + 1)).toInt)) (fun y_ => zG ar xl ((xs (6 * j + 2)).toInt) y_ % xp ((xs (6 * j + 1)).toInt)) 0 := (hm.1 hk0).trans ((show vBk (xp ((xs (6 * j + 1)).toInt)) (xz ((xs (6 * j + 1)).toInt)) (fun y_ => zG ar xl ((xs (6 * j + 2)).toInt) y_ % xp ((xs (6 * j + 1)).toInt)) 0 = _ from by rw [hag _ (kTr_0 hk0).2.1]).symm)
    refine lv_aload_n hx hb dL_law_774 rfl (lv_at hl 3 rfl) ?_
    refine z_iconst hx hb dL_law_775 ?_
    have hPo := zf_sub hH.1 [(18, 0)] (List.forall_mem_cons.mpr ⟨zKf 18 rfl rfl, fun _ h => absurd h List.not_mem_nil⟩) (wc := [(ad (18, 0), .inl (cJ, 1, .inr (.inl o1)))]) rfl
    refine va_lald (f := o1) hx hb hK hPo 0 3 rfl rfl (z_in (i := 0) (n := 1) ⟨Int.le_refl _, by decide⟩ (by decide)) dL_law_776 ?_
    rw [show (zI 0).toNatClampNeg = 0 from by decide, ho]
    refine lv_iload hx hb dL_law_777 (lv_at hl 6 rfl) ?_
    refine z_eqI (b := vBk (xp ((xs (6 * j + 1)).toInt)) (xz ((xs (6 * j + 1)).toInt)) (fun y_ => zG ar xl ((xs (6 * j + 2)).toInt) y_ % xp ((xs (6 * j + 1)).toInt)) 0) hbv ?_
    refine z_i2l hx hb dL_law_779 hvr ?_
    refine z_lcmp hx hb dL_law_780 (by omega) (by omega) ?_
    refine z_ifC_eq (tgt := 786) hx hb dL_law_781 (by decide) (fun _ => ?_) (fun q => absurd rfl q)
    refine lv_goto (tgt := 1253) hx hb dL_law_786 (by decide) ?_
    exact kk _ _ _ ⟨ad, ar1, md, xe1, xl1, xp, xz, xr, xm1, np, kTr xl np xz ((xs (6 * j + 1)).toInt) ((xs (6 * j + 2)).toInt) ((xs (6 * j + 3)).toInt), pg, o1, hY1, hM1, hag1, hH, hS, lv_sub hl [0, 1, 2, 3, 4] rfl⟩

set_option maxHeartbeats 4000000 in
set_option maxRecDepth 100000 in
theorem L_case_sum {p : Program} {l : Launch} {e : Env} {s : State} {m : MethodId} {below : List Frame} {meth : Method} {c : Code} {b L : Nat} {xs : Nat → Int32} {D : va_G} {cI cW cP cJ : ClassId} {Q : State → Prop} (hC : zLX p l s m meth c b L xs D cI cW cP cJ) (j : Nat) (hj : 6 * j + 6 ≤ L) (H : Heap) (locs : List Loc) (ls : Array Slot) (hI : zLI s b D cI cW cP cJ (6 * (j : Int)) H locs ls) (kk : ∀ (H : Heap) (locs : List Loc) (ls : Array Slot), zLI s b D cI cW cP cJ (6 * (j : Int)) H locs ls → W p l e room_1 s m #[Value.ref b] below meth c H locs (30 + 2 * j + 2) (1500 + 70 * j + 70) Q (F0 m 1253 ls [])) : W p l e room_1 s m #[Value.ref b] below meth c H locs (30 + 2 * j) (1500 + 70 * j) Q (F0 m 789 ls []) := by
  obtain ⟨hx, hb, hml, hown, hts, hX, hbl, hL, hl9, hXT, hK⟩ := hC
  obtain ⟨ad, ar, md, xe, xl, xp, xz, xr, xm, np, th, pg, o, hY, hM, hag, hH, hS, hl⟩ := hI
  have hA : ∀ q : Nat, s.heap.size ≤ q → (fun q : Nat => s.heap.size ≤ q) q := fun _ h => h
  have hbA : ¬ (fun q : Nat => s.heap.size ≤ q) b := Nat.not_le.mpr hbl
  have CF : CallFix p m c code 7 s #[Value.ref b] wsL_law RL := ⟨hx, hb, hml, hown, hts⟩
  refine lv_aload_n hx hb dL_law_789 rfl (lv_at hl 1 rfl) ?_
  refine lv_aload_n hx hb dL_law_790 rfl (lv_at hl 0 rfl) ?_
  refine lv_iload hx hb dL_law_791 (lv_at hl 4 rfl) ?_
  refine z_iconst hx hb dL_law_793 ?_
  refine z_iadd hx hb dL_law_794 ?_
  refine z_sld (b := b) hx hb hX hbl hbA hS (6 * j + 1) (by omega) (by omega) hL dL_law_795 ?_
  refine lv_aload_n hx hb dL_law_796 rfl (lv_at hl 0 rfl) ?_
  refine lv_iload hx hb dL_law_797 (lv_at hl 4 rfl) ?_
  refine z_iconst hx hb dL_law_799 ?_
  refine z_iadd hx hb dL_law_800 ?_
  refine z_sld (b := b) hx hb hX hbl hbA hS (6 * j + 2) (by omega) (by omega) hL dL_law_801 ?_
  refine lv_aload_n hx hb dL_law_802 rfl (lv_at hl 0 rfl) ?_
  refine lv_iload hx hb dL_law_803 (lv_at hl 4 rfl) ?_
  refine z_iconst hx hb dL_law_805 ?_
  refine z_iadd hx hb dL_law_806 ?_
  refine z_sld (b := b) hx hb hX hbl hbA hS (6 * j + 3) (by omega) (by omega) hL dL_law_807 ?_
  refine lv_aload_n hx hb dL_law_808 rfl (lv_at hl 3 rfl) ?_
  refine zl_call (vx_runSW (hh := [(0, 12, 15, 13), (0, 12, 19, 17)]) (As := [.ref (ad (4, 0)), .int (zI ((xs (6 * j + 1)).toInt)), .int (zI ((xs (6 * j + 2)).toInt)), .int (zI ((xs (6 * j + 3)).toInt)), .ref (ad (18, 0))]) (rest := []) CF (W_sum l hl9 D cI cW cP cJ ad ar xl np xp xz pg o ((xs (6 * j + 1)).toInt) ((xs (6 * j + 2)).toInt) ((xs (6 * j + 3)).toInt) hY (zI_rng _) (zI_rng _) (zI_rng _) (fun q : Nat => s.heap.size ≤ q) H.size) (vx_cwSW 5 hts gL_law_L_sum rfl rfl rfl (by decide +kernel) ⟨Nat.le_of_ble_eq_true rfl, Nat.le_of_ble_eq_true rfl⟩) (zl_preW hH hK hXT hS hA) rfl rfl hl.1 rfl (lv_room (Nat.le_of_ble_eq_true rfl)) dL_law_809 ⟨by show 30 + 2 * j + 2 ≤ 601024; omega, by show 1500 + 70 * j + 70 ≤ 7293034; omega⟩) hH hS hA (cells' := 30 + 2 * j + 2) (slots' := 1500 + 70 * j + 70) rfl rfl (fun u H locs hp hH hS => ?_)
  obtain ⟨k1, o1, c1, ar1⟩ := u
  have hk1 : k1 = kSum xl np xz ((xs (6 * j + 1)).toInt) ((xs (6 * j + 2)).toInt) ((xs (6 * j + 3)).toInt) := hp.1
  have hkr : 0 ≤ kSum xl np xz ((xs (6 * j + 1)).toInt) ((xs (6 * j + 2)).toInt) ((xs (6 * j + 3)).toInt) ∧ kSum xl np xz ((xs (6 * j + 1)).toInt) ((xs (6 * j + 2)).toInt) ((xs (6 * j + 3)).toInt) ≤ 3 := kSum_r
  have hH : zHs D (zYK np) (zY cI cW cP cJ ad ar1 c1 np xp xz pg o1) (zM cI md xe xl xp xz xr xm np th) (fun q : Nat => s.heap.size ≤ q) H := hH
  refine lv_istore (lv' := [(5, .int (zI k1)), (0, .ref b), (1, .ref (ad (4, 0))), (2, .ref (md 0)), (3, .ref (ad (18, 0))), (4, .int (zI (6 * (j : Int))))]) hx hb dL_law_812 hl (by decide) rfl (fun ls hl => ?_)
  have hl := lv_sub hl [1, 2, 3, 4, 5, 0] rfl
  have hl : lv_has ls 7 [(0, .ref b), (1, .ref (ad (4, 0))), (2, .ref (md 0)), (3, .ref (ad (18, 0))), (4, .int (zI (6 * (j : Int)))), (5, .int (zI k1))] := hl
  refine lv_aload_n hx hb dL_law_814 rfl (lv_at hl 2 rfl) ?_
  refine lv_aload_n hx hb dL_law_815 rfl (lv_at hl 0 rfl) ?_
  refine lv_iload hx hb dL_law_816 (lv_at hl 4 rfl) ?_
  refine z_iconst hx hb dL_law_818 ?_
  refine z_iadd hx hb dL_law_819 ?_
  refine z_sld (b := b) hx hb hX hbl hbA hS (6 * j + 1) (by omega) (by omega) hL dL_law_820 ?_
  refine lv_aload_n hx hb dL_law_821 rfl (lv_at hl 0 rfl) ?_
  refine lv_iload hx hb dL_law_822 (lv_at hl 4 rfl) ?_
  refine z_iconst hx hb dL_law_824 ?_
  refine z_iadd hx hb dL_law_825 ?_
  refine z_sld (b := b) hx hb hX hbl hbA hS (6 * j + 2) (by omega) (by omega) hL dL_law_826 ?_
  refine lv_aload_n hx hb dL_law_827 rfl (lv_at hl 0 rfl) ?_
  refine lv_iload hx hb dL_law_828 (lv_at hl 4 rfl) ?_
  refine z_iconst hx hb dL_law_830 ?_
  refine z_iadd hx hb dL_law_831 ?_
  refine z_sld (b := b) hx hb hX hbl hbA hS (6 * j + 3) (by omega) (by omega) hL dL_law_832 ?_
  refine zl_mcall (va_runV (As := [.int (zI ((xs (6 * j + 1)).toInt)), .int (zI ((xs (6 * j + 2)).toInt)), .int (zI ((xs (6 * j + 3)).toInt))]) (rest := []) CF (M_sum l D cI md xe xl xp xz xr xm np th ((xs (6 * j + 1)).toInt) ((xs (6 * j + 2)).toInt) ((xs (6 * j + 3)).toInt) hM (zI_rng _) (zI_rng _) (zI_rng _) H.size) (cwV 3 hts gL_law_X6_sum rfl rfl rfl (by decide +kernel) ⟨Nat.le_of_ble_eq_true rfl, Nat.le_of_ble_eq_true rfl⟩) (z_preV (va_recv hK hH.2.2.2.1 (ci := 5) (q0 := 0) rfl rfl) hH.2.2.2.1 hH.2.2.2.2.1 z_nilP (fun i j x y _ h => by simp at h) (hK.sub (tys' := [(cI, .int)]) [0] rfl)) rfl rfl hl.1 rfl (lv_room (Nat.le_of_ble_eq_true rfl)) dL_law_833 ⟨by show 30 + 2 * j + 2 + 0 ≤ 601024; omega, by show 1500 + 70 * j + 70 + 0 ≤ 7293034; omega⟩) hH hS hA (cells' := 30 + 2 * j + 2) (slots' := 1500 + 70 * j + 70) rfl rfl (fun w H locs hm hH hS => ?_)
  obtain ⟨b1, xe1, xl1, xm1⟩ := w
  have hH : zHs D (zYK np) (zY cI cW cP cJ ad ar1 c1 np xp xz pg o1) (zM cI md xe1 xl1 xp xz xr xm1 np (kSum xl np xz ((xs (6 * j + 1)).toInt) ((xs (6 * j + 2)).toInt) ((xs (6 * j + 3)).toInt))) (fun q : Nat => s.heap.size ≤ q) H := hH
  obtain ⟨e1, hY1, hM1, hag1⟩ := z_inv hY hM hag hp hm (fun q => q.2.elim)
  have e1 : xl1 = c1 := e1
  subst e1
  have hY1 : zYI ad ar1 xl1 np xp xz pg := hY1
  have hM1 : zMI xe1 xl1 xp xz xr np := hM1
  have hag1 : zSame ar1 xe1 xl1 := hag1
  refine lv_istore (lv' := [(6, .int (zI b1)), (0, .ref b), (1, .ref (ad (4, 0))), (2, .ref (md 0)), (3, .ref (ad (18, 0))), (4, .int (zI (6 * (j : Int)))), (5, .int (zI k1))]) hx hb dL_law_836 hl (by decide) rfl (fun ls hl => ?_)
  have hl := lv_sub hl [1, 2, 3, 4, 5, 6, 0] rfl
  have hl : lv_has ls 7 [(0, .ref b), (1, .ref (ad (4, 0))), (2, .ref (md 0)), (3, .ref (ad (18, 0))), (4, .int (zI (6 * (j : Int)))), (5, .int (zI k1)), (6, .int (zI b1))] := hl
  refine lv_aload_n hx hb dL_law_838 rfl (lv_at hl 2 rfl) ?_
  have hRc := hH.2.2.2.1.sub (ws' := [(md 0, .inr (5, [.ref (md 1), .ref (md 2), .ref (md 3), .ref (md 4), .ref (md 5), .int (zI np), .ref (md 6), .int (zI (kSum xl np xz ((xs (6 * j + 1)).toInt) ((xs (6 * j + 2)).toInt) ((xs (6 * j + 3)).toInt)))]))]) [0] rfl
  refine zl_ro (va_runV (As := []) (rest := []) CF (c_X6_thrown l D (md 0) (md 1) (md 2) (md 3) (md 4) (md 5) (md 6) np (kSum xl np xz ((xs (6 * j + 1)).toInt) ((xs (6 * j + 2)).toInt) ((xs (6 * j + 3)).toInt)) H.size) (cwV 0 hts gL_law_X6_thrown rfl rfl rfl (by decide +kernel) ⟨Nat.le_of_ble_eq_true rfl, Nat.le_of_ble_eq_true rfl⟩) (z_preV (va_recv hK hH.2.2.2.1 (ci := 5) (q0 := 0) rfl rfl) z_nilP (z_nilD (A := (fun q : Nat => s.heap.size ≤ q))) hRc z_noX (hK.sub (tys' := []) [] rfl)) rfl rfl hl.1 rfl (lv_room (Nat.le_of_ble_eq_true rfl)) dL_law_839 ⟨by show 30 + 2 * j + 2 + 0 ≤ 601024; omega, by show 1500 + 70 * j + 70 + 0 ≤ 7293034; omega⟩) hH hS hA (cells' := 30 + 2 * j + 2) (slots' := 1500 + 70 * j + 70) rfl rfl (fun H locs hH hS => ?_)
  refine lv_iload hx hb dL_law_842 (lv_at hl 5 rfl) ?_
  refine lv_icmp_eq (tgt := 849) hx hb dL_law_844 (by decide) (fun _ => ?_) (fun q => absurd (congrArg zI hk1.symm) q)
  refine lv_iload hx hb dL_law_849 (lv_at hl 5 rfl) ?_
  refine z_if_ne (tgt := 866) hx hb dL_law_851 (by decide) (by omega) (fun c_0 => ?_) (fun c_0 => ?_)
  · refine lv_goto (tgt := 1253) hx hb dL_law_866 (by decide) ?_
    exact kk _ _ _ ⟨ad, ar1, md, xe1, xl1, xp, xz, xr, xm1, np, kSum xl np xz ((xs (6 * j + 1)).toInt) ((xs (6 * j + 2)).toInt) ((xs (6 * j + 3)).toInt), pg, o1, hY1, hM1, hag1, hH, hS, lv_sub hl [0, 1, 2, 3, 4] rfl⟩
  · have hk0 := hk1.symm.trans c_0
    have ho : o1 0 = zL (sumR (xp ((xs (6 * j + 1)).toInt)) (xz ((xs (6 * j + 1)).toInt)) (zRoot (xp ((xs (6 * j + 1)).toInt)) (xz ((xs (6 * j + 1)).toInt))) (fun y_ => zG ar xl ((xs (6 * j + 2)).toInt) y_ % xp ((xs (6 * j + 1)).toInt)) ((xs (6 * j + 3)).toInt)) := (hp.2.1 hk0).1
    have hvr : -2147483648 ≤ sumR (xp ((xs (6 * j + 1)).toInt)) (xz ((xs (6 * j + 1)).toInt)) (zRoot (xp ((xs (6 * j + 1)).toInt)) (xz ((xs (6 * j + 1)).toInt))) (fun y_ => zG ar xl ((xs (6 * j + 2)).toInt) y_ % xp ((xs (6 * j + 1)).toInt)) ((xs (6 * j + 3)).toInt) ∧ sumR (xp ((xs (6 * j + 1)).toInt)) (xz ((xs (6 * j + 1)).toInt)) (zRoot (xp ((xs (6 * j + 1)).toInt)) (xz ((xs (6 * j + 1)).toInt))) (fun y_ => zG ar xl ((xs (6 * j + 2)).toInt) y_ % xp ((xs (6 * j + 1)).toInt)) ((xs (6 * j + 3)).toInt) ≤ 2147483647 := (hp.2.1 hk0).2
    have hbv : b1 = sumR (xp ((xs (6 * j + 1)).toInt)) (xz ((xs (6 * j + 1)).toInt)) (zRoot (xp ((xs (6 * j + 1)).toInt)) (xz ((xs (6 * j + 1)).toInt))) (fun y_ => zG ar xl ((xs (6 * j + 2)).toInt) y_ % xp ((xs (6 * j + 1)).toInt)) ((xs (6 * j + 3)).toInt) := (hm.1 hk0).trans ((show sumR (xp ((xs (6 * j + 1)).toInt)) (xz ((xs (6 * j + 1)).toInt)) (zRoot (xp ((xs (6 * j + 1)).toInt)) (xz ((xs (6 * j + 1)).toInt))) (fun y_ => zG ar xl ((xs (6 * j + 2)).toInt) y_ % xp ((xs (6 * j + 1)).toInt)) ((xs (6 * j + 3)).toInt) = _ from by rw [hag _ (kSum_0 hk0).2]).symm)
    refine lv_aload_n hx hb dL_law_854 rfl (lv_at hl 3 rfl) ?_
    refine z_iconst hx hb dL_law_855 ?_
    have hPo := zf_sub hH.1 [(18, 0)] (List.forall_mem_cons.mpr ⟨zKf 18 rfl rfl, fun _ h => absurd h List.not_mem_nil⟩) (wc := [(ad (18, 0), .inl (cJ, 1, .inr (.inl o1)))]) rfl
    refine va_lald (f := o1) hx hb hK hPo 0 3 rfl rfl (z_in (i := 0) (n := 1) ⟨Int.le_refl _, by decide⟩ (by decide)) dL_law_856 ?_
    rw [show (zI 0).toNatClampNeg = 0 from by decide, ho]
    refine lv_iload hx hb dL_law_857 (lv_at hl 6 rfl) ?_
    refine z_eqI (b := sumR (xp ((xs (6 * j + 1)).toInt)) (xz ((xs (6 * j + 1)).toInt)) (zRoot (xp ((xs (6 * j + 1)).toInt)) (xz ((xs (6 * j + 1)).toInt))) (fun y_ => zG ar xl ((xs (6 * j + 2)).toInt) y_ % xp ((xs (6 * j + 1)).toInt)) ((xs (6 * j + 3)).toInt)) hbv ?_
    refine z_i2l hx hb dL_law_859 hvr ?_
    refine z_lcmp hx hb dL_law_860 (by omega) (by omega) ?_
    refine z_ifC_eq (tgt := 866) hx hb dL_law_861 (by decide) (fun _ => ?_) (fun q => absurd rfl q)
    refine lv_goto (tgt := 1253) hx hb dL_law_866 (by decide) ?_
    exact kk _ _ _ ⟨ad, ar1, md, xe1, xl1, xp, xz, xr, xm1, np, kSum xl np xz ((xs (6 * j + 1)).toInt) ((xs (6 * j + 2)).toInt) ((xs (6 * j + 3)).toInt), pg, o1, hY1, hM1, hag1, hH, hS, lv_sub hl [0, 1, 2, 3, 4] rfl⟩

set_option maxHeartbeats 4000000 in
set_option maxRecDepth 100000 in
theorem L_case_convolve {p : Program} {l : Launch} {e : Env} {s : State} {m : MethodId} {below : List Frame} {meth : Method} {c : Code} {b L : Nat} {xs : Nat → Int32} {D : va_G} {cI cW cP cJ : ClassId} {Q : State → Prop} (hC : zLX p l s m meth c b L xs D cI cW cP cJ) (j : Nat) (hj : 6 * j + 6 ≤ L) (H : Heap) (locs : List Loc) (ls : Array Slot) (hI : zLI s b D cI cW cP cJ (6 * (j : Int)) H locs ls) (kk : ∀ (H : Heap) (locs : List Loc) (ls : Array Slot), zLI s b D cI cW cP cJ (6 * (j : Int)) H locs ls → W p l e room_1 s m #[Value.ref b] below meth c H locs (30 + 2 * j + 2) (1500 + 70 * j + 70) Q (F0 m 1253 ls [])) : W p l e room_1 s m #[Value.ref b] below meth c H locs (30 + 2 * j) (1500 + 70 * j) Q (F0 m 869 ls []) := by
  obtain ⟨hx, hb, hml, hown, hts, hX, hbl, hL, hl9, hXT, hK⟩ := hC
  obtain ⟨ad, ar, md, xe, xl, xp, xz, xr, xm, np, th, pg, o, hY, hM, hag, hH, hS, hl⟩ := hI
  have hA : ∀ q : Nat, s.heap.size ≤ q → (fun q : Nat => s.heap.size ≤ q) q := fun _ h => h
  have hbA : ¬ (fun q : Nat => s.heap.size ≤ q) b := Nat.not_le.mpr hbl
  have CF : CallFix p m c code 7 s #[Value.ref b] wsL_law RL := ⟨hx, hb, hml, hown, hts⟩
  refine lv_aload_n hx hb dL_law_869 rfl (lv_at hl 1 rfl) ?_
  refine lv_aload_n hx hb dL_law_870 rfl (lv_at hl 0 rfl) ?_
  refine lv_iload hx hb dL_law_871 (lv_at hl 4 rfl) ?_
  refine z_iconst hx hb dL_law_873 ?_
  refine z_iadd hx hb dL_law_874 ?_
  refine z_sld (b := b) hx hb hX hbl hbA hS (6 * j + 1) (by omega) (by omega) hL dL_law_875 ?_
  refine lv_aload_n hx hb dL_law_876 rfl (lv_at hl 0 rfl) ?_
  refine lv_iload hx hb dL_law_877 (lv_at hl 4 rfl) ?_
  refine z_iconst hx hb dL_law_879 ?_
  refine z_iadd hx hb dL_law_880 ?_
  refine z_sld (b := b) hx hb hX hbl hbA hS (6 * j + 2) (by omega) (by omega) hL dL_law_881 ?_
  refine lv_aload_n hx hb dL_law_882 rfl (lv_at hl 0 rfl) ?_
  refine lv_iload hx hb dL_law_883 (lv_at hl 4 rfl) ?_
  refine z_iconst hx hb dL_law_885 ?_
  refine z_iadd hx hb dL_law_886 ?_
  refine z_sld (b := b) hx hb hX hbl hbA hS (6 * j + 3) (by omega) (by omega) hL dL_law_887 ?_
  refine lv_aload_n hx hb dL_law_888 rfl (lv_at hl 0 rfl) ?_
  refine lv_iload hx hb dL_law_889 (lv_at hl 4 rfl) ?_
  refine z_iconst hx hb dL_law_891 ?_
  refine z_iadd hx hb dL_law_892 ?_
  refine z_sld (b := b) hx hb hX hbl hbA hS (6 * j + 4) (by omega) (by omega) hL dL_law_893 ?_
  refine lv_aload_n hx hb dL_law_894 rfl (lv_at hl 3 rfl) ?_
  refine zl_call (vx_runSW (hh := [(0, 14, 17, 13), (0, 14, 21, 17)]) (As := [.ref (ad (4, 0)), .int (zI ((xs (6 * j + 1)).toInt)), .int (zI ((xs (6 * j + 2)).toInt)), .int (zI ((xs (6 * j + 3)).toInt)), .int (zI ((xs (6 * j + 4)).toInt)), .ref (ad (18, 0))]) (rest := []) CF (W_convolve l hl9 D cI cW cP cJ ad ar xl np xp xz pg o ((xs (6 * j + 1)).toInt) ((xs (6 * j + 2)).toInt) ((xs (6 * j + 3)).toInt) ((xs (6 * j + 4)).toInt) hY (zI_rng _) (zI_rng _) (zI_rng _) (zI_rng _) (fun q : Nat => s.heap.size ≤ q) H.size) (vx_cwSW 6 hts gL_law_L_convolve rfl rfl rfl (by decide +kernel) ⟨Nat.le_of_ble_eq_true rfl, Nat.le_of_ble_eq_true rfl⟩) (zl_preW hH hK hXT hS hA) rfl rfl hl.1 rfl (lv_room (Nat.le_of_ble_eq_true rfl)) dL_law_895 ⟨by show 30 + 2 * j + 2 ≤ 601024; omega, by show 1500 + 70 * j + 70 ≤ 7293034; omega⟩) hH hS hA (cells' := 30 + 2 * j + 2) (slots' := 1500 + 70 * j + 70) rfl rfl (fun u H locs hp hH hS => ?_)
  obtain ⟨k1, o1, c1, ar1⟩ := u
  have hk1 : k1 = kConv xl np xz ((xs (6 * j + 1)).toInt) ((xs (6 * j + 2)).toInt) ((xs (6 * j + 3)).toInt) ((xs (6 * j + 4)).toInt) := hp.1
  have hkr : 0 ≤ kConv xl np xz ((xs (6 * j + 1)).toInt) ((xs (6 * j + 2)).toInt) ((xs (6 * j + 3)).toInt) ((xs (6 * j + 4)).toInt) ∧ kConv xl np xz ((xs (6 * j + 1)).toInt) ((xs (6 * j + 2)).toInt) ((xs (6 * j + 3)).toInt) ((xs (6 * j + 4)).toInt) ≤ 3 := kConv_r
  have hH : zHs D (zYK np) (zY cI cW cP cJ ad ar1 c1 np xp xz pg o1) (zM cI md xe xl xp xz xr xm np th) (fun q : Nat => s.heap.size ≤ q) H := hH
  refine lv_istore (lv' := [(5, .int (zI k1)), (0, .ref b), (1, .ref (ad (4, 0))), (2, .ref (md 0)), (3, .ref (ad (18, 0))), (4, .int (zI (6 * (j : Int))))]) hx hb dL_law_898 hl (by decide) rfl (fun ls hl => ?_)
  have hl := lv_sub hl [1, 2, 3, 4, 5, 0] rfl
  have hl : lv_has ls 7 [(0, .ref b), (1, .ref (ad (4, 0))), (2, .ref (md 0)), (3, .ref (ad (18, 0))), (4, .int (zI (6 * (j : Int)))), (5, .int (zI k1))] := hl
  refine lv_aload_n hx hb dL_law_900 rfl (lv_at hl 2 rfl) ?_
  refine lv_aload_n hx hb dL_law_901 rfl (lv_at hl 0 rfl) ?_
  refine lv_iload hx hb dL_law_902 (lv_at hl 4 rfl) ?_
  refine z_iconst hx hb dL_law_904 ?_
  refine z_iadd hx hb dL_law_905 ?_
  refine z_sld (b := b) hx hb hX hbl hbA hS (6 * j + 1) (by omega) (by omega) hL dL_law_906 ?_
  refine lv_aload_n hx hb dL_law_907 rfl (lv_at hl 0 rfl) ?_
  refine lv_iload hx hb dL_law_908 (lv_at hl 4 rfl) ?_
  refine z_iconst hx hb dL_law_910 ?_
  refine z_iadd hx hb dL_law_911 ?_
  refine z_sld (b := b) hx hb hX hbl hbA hS (6 * j + 2) (by omega) (by omega) hL dL_law_912 ?_
  refine lv_aload_n hx hb dL_law_913 rfl (lv_at hl 0 rfl) ?_
  refine lv_iload hx hb dL_law_914 (lv_at hl 4 rfl) ?_
  refine z_iconst hx hb dL_law_916 ?_
  refine z_iadd hx hb dL_law_917 ?_
  refine z_sld (b := b) hx hb hX hbl hbA hS (6 * j + 3) (by omega) (by omega) hL dL_law_918 ?_
  refine lv_aload_n hx hb dL_law_919 rfl (lv_at hl 0 rfl) ?_
  refine lv_iload hx hb dL_law_920 (lv_at hl 4 rfl) ?_
  refine z_iconst hx hb dL_law_922 ?_
  refine z_iadd hx hb dL_law_923 ?_
  refine z_sld (b := b) hx hb hX hbl hbA hS (6 * j + 4) (by omega) (by omega) hL dL_law_924 ?_
  refine zl_mcall (va_runV (As := [.int (zI ((xs (6 * j + 1)).toInt)), .int (zI ((xs (6 * j + 2)).toInt)), .int (zI ((xs (6 * j + 3)).toInt)), .int (zI ((xs (6 * j + 4)).toInt))]) (rest := []) CF (M_convolve l D cI md xe xl xp xz xr xm np th ((xs (6 * j + 1)).toInt) ((xs (6 * j + 2)).toInt) ((xs (6 * j + 3)).toInt) ((xs (6 * j + 4)).toInt) hM (zI_rng _) (zI_rng _) (zI_rng _) (zI_rng _) H.size) (cwV 4 hts gL_law_X6_convolve rfl rfl rfl (by decide +kernel) ⟨Nat.le_of_ble_eq_true rfl, Nat.le_of_ble_eq_true rfl⟩) (z_preV (va_recv hK hH.2.2.2.1 (ci := 5) (q0 := 0) rfl rfl) hH.2.2.2.1 hH.2.2.2.2.1 z_nilP (fun i j x y _ h => by simp at h) (hK.sub (tys' := [(cI, .int)]) [0] rfl)) rfl rfl hl.1 rfl (lv_room (Nat.le_of_ble_eq_true rfl)) dL_law_925 ⟨by show 30 + 2 * j + 2 + 0 ≤ 601024; omega, by show 1500 + 70 * j + 70 + 0 ≤ 7293034; omega⟩) hH hS hA (cells' := 30 + 2 * j + 2) (slots' := 1500 + 70 * j + 70) rfl rfl (fun w H locs hm hH hS => ?_)
  obtain ⟨b1, xe1, xl1, xm1⟩ := w
  have hH : zHs D (zYK np) (zY cI cW cP cJ ad ar1 c1 np xp xz pg o1) (zM cI md xe1 xl1 xp xz xr xm1 np (kConv xl np xz ((xs (6 * j + 1)).toInt) ((xs (6 * j + 2)).toInt) ((xs (6 * j + 3)).toInt) ((xs (6 * j + 4)).toInt))) (fun q : Nat => s.heap.size ≤ q) H := hH
  obtain ⟨e1, hY1, hM1, hag1⟩ := z_inv hY hM hag hp hm (fun q => v_conv hM hag q.1)
  have e1 : xl1 = c1 := e1
  subst e1
  have hY1 : zYI ad ar1 xl1 np xp xz pg := hY1
  have hM1 : zMI xe1 xl1 xp xz xr np := hM1
  have hag1 : zSame ar1 xe1 xl1 := hag1
  refine lv_istore (lv' := [(6, .int (zI b1)), (0, .ref b), (1, .ref (ad (4, 0))), (2, .ref (md 0)), (3, .ref (ad (18, 0))), (4, .int (zI (6 * (j : Int)))), (5, .int (zI k1))]) hx hb dL_law_928 hl (by decide) rfl (fun ls hl => ?_)
  have hl := lv_sub hl [1, 2, 3, 4, 5, 6, 0] rfl
  have hl : lv_has ls 7 [(0, .ref b), (1, .ref (ad (4, 0))), (2, .ref (md 0)), (3, .ref (ad (18, 0))), (4, .int (zI (6 * (j : Int)))), (5, .int (zI k1)), (6, .int (zI b1))] := hl
  refine lv_aload_n hx hb dL_law_930 rfl (lv_at hl 2 rfl) ?_
  have hRc := hH.2.2.2.1.sub (ws' := [(md 0, .inr (5, [.ref (md 1), .ref (md 2), .ref (md 3), .ref (md 4), .ref (md 5), .int (zI np), .ref (md 6), .int (zI (kConv xl np xz ((xs (6 * j + 1)).toInt) ((xs (6 * j + 2)).toInt) ((xs (6 * j + 3)).toInt) ((xs (6 * j + 4)).toInt)))]))]) [0] rfl
  refine zl_ro (va_runV (As := []) (rest := []) CF (c_X6_thrown l D (md 0) (md 1) (md 2) (md 3) (md 4) (md 5) (md 6) np (kConv xl np xz ((xs (6 * j + 1)).toInt) ((xs (6 * j + 2)).toInt) ((xs (6 * j + 3)).toInt) ((xs (6 * j + 4)).toInt)) H.size) (cwV 0 hts gL_law_X6_thrown rfl rfl rfl (by decide +kernel) ⟨Nat.le_of_ble_eq_true rfl, Nat.le_of_ble_eq_true rfl⟩) (z_preV (va_recv hK hH.2.2.2.1 (ci := 5) (q0 := 0) rfl rfl) z_nilP (z_nilD (A := (fun q : Nat => s.heap.size ≤ q))) hRc z_noX (hK.sub (tys' := []) [] rfl)) rfl rfl hl.1 rfl (lv_room (Nat.le_of_ble_eq_true rfl)) dL_law_931 ⟨by show 30 + 2 * j + 2 + 0 ≤ 601024; omega, by show 1500 + 70 * j + 70 + 0 ≤ 7293034; omega⟩) hH hS hA (cells' := 30 + 2 * j + 2) (slots' := 1500 + 70 * j + 70) rfl rfl (fun H locs hH hS => ?_)
  refine lv_iload hx hb dL_law_934 (lv_at hl 5 rfl) ?_
  refine lv_icmp_eq (tgt := 941) hx hb dL_law_936 (by decide) (fun _ => ?_) (fun q => absurd (congrArg zI hk1.symm) q)
  refine lv_iload hx hb dL_law_941 (lv_at hl 5 rfl) ?_
  refine z_if_ne (tgt := 958) hx hb dL_law_943 (by decide) (by omega) (fun c_0 => ?_) (fun c_0 => ?_)
  · refine lv_goto (tgt := 1253) hx hb dL_law_958 (by decide) ?_
    exact kk _ _ _ ⟨ad, ar1, md, xe1, xl1, xp, xz, xr, xm1, np, kConv xl np xz ((xs (6 * j + 1)).toInt) ((xs (6 * j + 2)).toInt) ((xs (6 * j + 3)).toInt) ((xs (6 * j + 4)).toInt), pg, o1, hY1, hM1, hag1, hH, hS, lv_sub hl [0, 1, 2, 3, 4] rfl⟩
  · have hk0 := hk1.symm.trans c_0
    have ho : o1 0 = zL (xz ((xs (6 * j + 1)).toInt)) := (hp.2.1 hk0).1
    have hvr : -2147483648 ≤ xz ((xs (6 * j + 1)).toInt) ∧ xz ((xs (6 * j + 1)).toInt) ≤ 2147483647 := (hp.2.1 hk0).2
    have hbv : b1 = xz ((xs (6 * j + 1)).toInt) := (hm.1 hk0).trans (rfl)
    refine lv_aload_n hx hb dL_law_946 rfl (lv_at hl 3 rfl) ?_
    refine z_iconst hx hb dL_law_947 ?_
    have hPo := zf_sub hH.1 [(18, 0)] (List.forall_mem_cons.mpr ⟨zKf 18 rfl rfl, fun _ h => absurd h List.not_mem_nil⟩) (wc := [(ad (18, 0), .inl (cJ, 1, .inr (.inl o1)))]) rfl
    refine va_lald (f := o1) hx hb hK hPo 0 3 rfl rfl (z_in (i := 0) (n := 1) ⟨Int.le_refl _, by decide⟩ (by decide)) dL_law_948 ?_
    rw [show (zI 0).toNatClampNeg = 0 from by decide, ho]
    refine lv_iload hx hb dL_law_949 (lv_at hl 6 rfl) ?_
    refine z_eqI (b := xz ((xs (6 * j + 1)).toInt)) hbv ?_
    refine z_i2l hx hb dL_law_951 hvr ?_
    refine z_lcmp hx hb dL_law_952 (by omega) (by omega) ?_
    refine z_ifC_eq (tgt := 958) hx hb dL_law_953 (by decide) (fun _ => ?_) (fun q => absurd rfl q)
    refine lv_goto (tgt := 1253) hx hb dL_law_958 (by decide) ?_
    exact kk _ _ _ ⟨ad, ar1, md, xe1, xl1, xp, xz, xr, xm1, np, kConv xl np xz ((xs (6 * j + 1)).toInt) ((xs (6 * j + 2)).toInt) ((xs (6 * j + 3)).toInt) ((xs (6 * j + 4)).toInt), pg, o1, hY1, hM1, hag1, hH, hS, lv_sub hl [0, 1, 2, 3, 4] rfl⟩

set_option maxHeartbeats 4000000 in
set_option maxRecDepth 100000 in
theorem L_case_convolved {p : Program} {l : Launch} {e : Env} {s : State} {m : MethodId} {below : List Frame} {meth : Method} {c : Code} {b L : Nat} {xs : Nat → Int32} {D : va_G} {cI cW cP cJ : ClassId} {Q : State → Prop} (hC : zLX p l s m meth c b L xs D cI cW cP cJ) (j : Nat) (hj : 6 * j + 6 ≤ L) (H : Heap) (locs : List Loc) (ls : Array Slot) (hI : zLI s b D cI cW cP cJ (6 * (j : Int)) H locs ls) (kk : ∀ (H : Heap) (locs : List Loc) (ls : Array Slot), zLI s b D cI cW cP cJ (6 * (j : Int)) H locs ls → W p l e room_1 s m #[Value.ref b] below meth c H locs (30 + 2 * j + 2) (1500 + 70 * j + 70) Q (F0 m 1253 ls [])) : W p l e room_1 s m #[Value.ref b] below meth c H locs (30 + 2 * j) (1500 + 70 * j) Q (F0 m 961 ls []) := by
  obtain ⟨hx, hb, hml, hown, hts, hX, hbl, hL, hl9, hXT, hK⟩ := hC
  obtain ⟨ad, ar, md, xe, xl, xp, xz, xr, xm, np, th, pg, o, hY, hM, hag, hH, hS, hl⟩ := hI
  have hA : ∀ q : Nat, s.heap.size ≤ q → (fun q : Nat => s.heap.size ≤ q) q := fun _ h => h
  have hbA : ¬ (fun q : Nat => s.heap.size ≤ q) b := Nat.not_le.mpr hbl
  have CF : CallFix p m c code 7 s #[Value.ref b] wsL_law RL := ⟨hx, hb, hml, hown, hts⟩
  refine lv_aload_n hx hb dL_law_961 rfl (lv_at hl 1 rfl) ?_
  refine lv_aload_n hx hb dL_law_962 rfl (lv_at hl 0 rfl) ?_
  refine lv_iload hx hb dL_law_963 (lv_at hl 4 rfl) ?_
  refine z_iconst hx hb dL_law_965 ?_
  refine z_iadd hx hb dL_law_966 ?_
  refine z_sld (b := b) hx hb hX hbl hbA hS (6 * j + 1) (by omega) (by omega) hL dL_law_967 ?_
  refine lv_aload_n hx hb dL_law_968 rfl (lv_at hl 0 rfl) ?_
  refine lv_iload hx hb dL_law_969 (lv_at hl 4 rfl) ?_
  refine z_iconst hx hb dL_law_971 ?_
  refine z_iadd hx hb dL_law_972 ?_
  refine z_sld (b := b) hx hb hX hbl hbA hS (6 * j + 2) (by omega) (by omega) hL dL_law_973 ?_
  refine lv_aload_n hx hb dL_law_974 rfl (lv_at hl 0 rfl) ?_
  refine lv_iload hx hb dL_law_975 (lv_at hl 4 rfl) ?_
  refine z_iconst hx hb dL_law_977 ?_
  refine z_iadd hx hb dL_law_978 ?_
  refine z_sld (b := b) hx hb hX hbl hbA hS (6 * j + 3) (by omega) (by omega) hL dL_law_979 ?_
  refine lv_aload_n hx hb dL_law_980 rfl (lv_at hl 0 rfl) ?_
  refine lv_iload hx hb dL_law_981 (lv_at hl 4 rfl) ?_
  refine z_iconst hx hb dL_law_983 ?_
  refine z_iadd hx hb dL_law_984 ?_
  refine z_sld (b := b) hx hb hX hbl hbA hS (6 * j + 4) (by omega) (by omega) hL dL_law_985 ?_
  refine lv_aload_n hx hb dL_law_986 rfl (lv_at hl 3 rfl) ?_
  refine zl_call (vx_runSW (hh := [(0, 14, 17, 13), (0, 14, 21, 17)]) (As := [.ref (ad (4, 0)), .int (zI ((xs (6 * j + 1)).toInt)), .int (zI ((xs (6 * j + 2)).toInt)), .int (zI ((xs (6 * j + 3)).toInt)), .int (zI ((xs (6 * j + 4)).toInt)), .ref (ad (18, 0))]) (rest := []) CF (W_convolved l hl9 D cI cW cP cJ ad ar xl np xp xz pg o ((xs (6 * j + 1)).toInt) ((xs (6 * j + 2)).toInt) ((xs (6 * j + 3)).toInt) ((xs (6 * j + 4)).toInt) hY (zI_rng _) (zI_rng _) (zI_rng _) (zI_rng _) (fun q : Nat => s.heap.size ≤ q) H.size) (vx_cwSW 6 hts gL_law_L_convolved rfl rfl rfl (by decide +kernel) ⟨Nat.le_of_ble_eq_true rfl, Nat.le_of_ble_eq_true rfl⟩) (zl_preW hH hK hXT hS hA) rfl rfl hl.1 rfl (lv_room (Nat.le_of_ble_eq_true rfl)) dL_law_987 ⟨by show 30 + 2 * j + 2 ≤ 601024; omega, by show 1500 + 70 * j + 70 ≤ 7293034; omega⟩) hH hS hA (cells' := 30 + 2 * j + 2) (slots' := 1500 + 70 * j + 70) rfl rfl (fun u H locs hp hH hS => ?_)
  obtain ⟨k1, o1, c1, ar1⟩ := u
  have hk1 : k1 = kConvd xl np xz ((xs (6 * j + 1)).toInt) ((xs (6 * j + 2)).toInt) ((xs (6 * j + 3)).toInt) ((xs (6 * j + 4)).toInt) := hp.1
  have hkr : 0 ≤ kConvd xl np xz ((xs (6 * j + 1)).toInt) ((xs (6 * j + 2)).toInt) ((xs (6 * j + 3)).toInt) ((xs (6 * j + 4)).toInt) ∧ kConvd xl np xz ((xs (6 * j + 1)).toInt) ((xs (6 * j + 2)).toInt) ((xs (6 * j + 3)).toInt) ((xs (6 * j + 4)).toInt) ≤ 3 := kConvd_r
  have hH : zHs D (zYK np) (zY cI cW cP cJ ad ar1 c1 np xp xz pg o1) (zM cI md xe xl xp xz xr xm np th) (fun q : Nat => s.heap.size ≤ q) H := hH
  refine lv_istore (lv' := [(5, .int (zI k1)), (0, .ref b), (1, .ref (ad (4, 0))), (2, .ref (md 0)), (3, .ref (ad (18, 0))), (4, .int (zI (6 * (j : Int))))]) hx hb dL_law_990 hl (by decide) rfl (fun ls hl => ?_)
  have hl := lv_sub hl [1, 2, 3, 4, 5, 0] rfl
  have hl : lv_has ls 7 [(0, .ref b), (1, .ref (ad (4, 0))), (2, .ref (md 0)), (3, .ref (ad (18, 0))), (4, .int (zI (6 * (j : Int)))), (5, .int (zI k1))] := hl
  refine lv_aload_n hx hb dL_law_992 rfl (lv_at hl 2 rfl) ?_
  refine lv_aload_n hx hb dL_law_993 rfl (lv_at hl 0 rfl) ?_
  refine lv_iload hx hb dL_law_994 (lv_at hl 4 rfl) ?_
  refine z_iconst hx hb dL_law_996 ?_
  refine z_iadd hx hb dL_law_997 ?_
  refine z_sld (b := b) hx hb hX hbl hbA hS (6 * j + 1) (by omega) (by omega) hL dL_law_998 ?_
  refine lv_aload_n hx hb dL_law_999 rfl (lv_at hl 0 rfl) ?_
  refine lv_iload hx hb dL_law_1000 (lv_at hl 4 rfl) ?_
  refine z_iconst hx hb dL_law_1002 ?_
  refine z_iadd hx hb dL_law_1003 ?_
  refine z_sld (b := b) hx hb hX hbl hbA hS (6 * j + 2) (by omega) (by omega) hL dL_law_1004 ?_
  refine lv_aload_n hx hb dL_law_1005 rfl (lv_at hl 0 rfl) ?_
  refine lv_iload hx hb dL_law_1006 (lv_at hl 4 rfl) ?_
  refine z_iconst hx hb dL_law_1008 ?_
  refine z_iadd hx hb dL_law_1009 ?_
  refine z_sld (b := b) hx hb hX hbl hbA hS (6 * j + 3) (by omega) (by omega) hL dL_law_1010 ?_
  refine lv_aload_n hx hb dL_law_1011 rfl (lv_at hl 0 rfl) ?_
  refine lv_iload hx hb dL_law_1012 (lv_at hl 4 rfl) ?_
  refine z_iconst hx hb dL_law_1014 ?_
  refine z_iadd hx hb dL_law_1015 ?_
  refine z_sld (b := b) hx hb hX hbl hbA hS (6 * j + 4) (by omega) (by omega) hL dL_law_1016 ?_
  refine zl_mcall (va_runV (As := [.int (zI ((xs (6 * j + 1)).toInt)), .int (zI ((xs (6 * j + 2)).toInt)), .int (zI ((xs (6 * j + 3)).toInt)), .int (zI ((xs (6 * j + 4)).toInt))]) (rest := []) CF (M_convolved l D cI md xe xl xp xz xr xm np th ((xs (6 * j + 1)).toInt) ((xs (6 * j + 2)).toInt) ((xs (6 * j + 3)).toInt) ((xs (6 * j + 4)).toInt) hM (zI_rng _) (zI_rng _) (zI_rng _) (zI_rng _) H.size) (cwV 4 hts gL_law_X6_convolved rfl rfl rfl (by decide +kernel) ⟨Nat.le_of_ble_eq_true rfl, Nat.le_of_ble_eq_true rfl⟩) (z_preV (va_recv hK hH.2.2.2.1 (ci := 5) (q0 := 0) rfl rfl) hH.2.2.2.1 hH.2.2.2.2.1 z_nilP (fun i j x y _ h => by simp at h) (hK.sub (tys' := [(cI, .int)]) [0] rfl)) rfl rfl hl.1 rfl (lv_room (Nat.le_of_ble_eq_true rfl)) dL_law_1017 ⟨by show 30 + 2 * j + 2 + 0 ≤ 601024; omega, by show 1500 + 70 * j + 70 + 0 ≤ 7293034; omega⟩) hH hS hA (cells' := 30 + 2 * j + 2) (slots' := 1500 + 70 * j + 70) rfl rfl (fun w H locs hm hH hS => ?_)
  obtain ⟨b1, xe1, xl1, xm1⟩ := w
  have hH : zHs D (zYK np) (zY cI cW cP cJ ad ar1 c1 np xp xz pg o1) (zM cI md xe1 xl1 xp xz xr xm1 np (kConvd xl np xz ((xs (6 * j + 1)).toInt) ((xs (6 * j + 2)).toInt) ((xs (6 * j + 3)).toInt) ((xs (6 * j + 4)).toInt))) (fun q : Nat => s.heap.size ≤ q) H := hH
  obtain ⟨e1, hY1, hM1, hag1⟩ := z_inv hY hM hag hp hm (fun q => q.2.elim)
  have e1 : xl1 = c1 := e1
  subst e1
  have hY1 : zYI ad ar1 xl1 np xp xz pg := hY1
  have hM1 : zMI xe1 xl1 xp xz xr np := hM1
  have hag1 : zSame ar1 xe1 xl1 := hag1
  refine lv_istore (lv' := [(6, .int (zI b1)), (0, .ref b), (1, .ref (ad (4, 0))), (2, .ref (md 0)), (3, .ref (ad (18, 0))), (4, .int (zI (6 * (j : Int)))), (5, .int (zI k1))]) hx hb dL_law_1020 hl (by decide) rfl (fun ls hl => ?_)
  have hl := lv_sub hl [1, 2, 3, 4, 5, 6, 0] rfl
  have hl : lv_has ls 7 [(0, .ref b), (1, .ref (ad (4, 0))), (2, .ref (md 0)), (3, .ref (ad (18, 0))), (4, .int (zI (6 * (j : Int)))), (5, .int (zI k1)), (6, .int (zI b1))] := hl
  refine lv_aload_n hx hb dL_law_1022 rfl (lv_at hl 2 rfl) ?_
  have hRc := hH.2.2.2.1.sub (ws' := [(md 0, .inr (5, [.ref (md 1), .ref (md 2), .ref (md 3), .ref (md 4), .ref (md 5), .int (zI np), .ref (md 6), .int (zI (kConvd xl np xz ((xs (6 * j + 1)).toInt) ((xs (6 * j + 2)).toInt) ((xs (6 * j + 3)).toInt) ((xs (6 * j + 4)).toInt)))]))]) [0] rfl
  refine zl_ro (va_runV (As := []) (rest := []) CF (c_X6_thrown l D (md 0) (md 1) (md 2) (md 3) (md 4) (md 5) (md 6) np (kConvd xl np xz ((xs (6 * j + 1)).toInt) ((xs (6 * j + 2)).toInt) ((xs (6 * j + 3)).toInt) ((xs (6 * j + 4)).toInt)) H.size) (cwV 0 hts gL_law_X6_thrown rfl rfl rfl (by decide +kernel) ⟨Nat.le_of_ble_eq_true rfl, Nat.le_of_ble_eq_true rfl⟩) (z_preV (va_recv hK hH.2.2.2.1 (ci := 5) (q0 := 0) rfl rfl) z_nilP (z_nilD (A := (fun q : Nat => s.heap.size ≤ q))) hRc z_noX (hK.sub (tys' := []) [] rfl)) rfl rfl hl.1 rfl (lv_room (Nat.le_of_ble_eq_true rfl)) dL_law_1023 ⟨by show 30 + 2 * j + 2 + 0 ≤ 601024; omega, by show 1500 + 70 * j + 70 + 0 ≤ 7293034; omega⟩) hH hS hA (cells' := 30 + 2 * j + 2) (slots' := 1500 + 70 * j + 70) rfl rfl (fun H locs hH hS => ?_)
  refine lv_iload hx hb dL_law_1026 (lv_at hl 5 rfl) ?_
  refine lv_icmp_eq (tgt := 1033) hx hb dL_law_1028 (by decide) (fun _ => ?_) (fun q => absurd (congrArg zI hk1.symm) q)
  refine lv_iload hx hb dL_law_1033 (lv_at hl 5 rfl) ?_
  refine z_if_ne (tgt := 1050) hx hb dL_law_1035 (by decide) (by omega) (fun c_0 => ?_) (fun c_0 => ?_)
  · refine lv_goto (tgt := 1253) hx hb dL_law_1050 (by decide) ?_
    exact kk _ _ _ ⟨ad, ar1, md, xe1, xl1, xp, xz, xr, xm1, np, kConvd xl np xz ((xs (6 * j + 1)).toInt) ((xs (6 * j + 2)).toInt) ((xs (6 * j + 3)).toInt) ((xs (6 * j + 4)).toInt), pg, o1, hY1, hM1, hag1, hH, hS, lv_sub hl [0, 1, 2, 3, 4] rfl⟩
  · have hk0 := hk1.symm.trans c_0
    have ho : o1 0 = zL (cyc (xp ((xs (6 * j + 1)).toInt)) (xz ((xs (6 * j + 1)).toInt)) (fun y_ => zG ar xl ((xs (6 * j + 2)).toInt) y_ % xp ((xs (6 * j + 1)).toInt)) (fun y_ => zG ar xl ((xs (6 * j + 3)).toInt) y_ % xp ((xs (6 * j + 1)).toInt)) ((xs (6 * j + 4)).toInt)) := (hp.2.1 hk0).1
    have hvr : -2147483648 ≤ cyc (xp ((xs (6 * j + 1)).toInt)) (xz ((xs (6 * j + 1)).toInt)) (fun y_ => zG ar xl ((xs (6 * j + 2)).toInt) y_ % xp ((xs (6 * j + 1)).toInt)) (fun y_ => zG ar xl ((xs (6 * j + 3)).toInt) y_ % xp ((xs (6 * j + 1)).toInt)) ((xs (6 * j + 4)).toInt) ∧ cyc (xp ((xs (6 * j + 1)).toInt)) (xz ((xs (6 * j + 1)).toInt)) (fun y_ => zG ar xl ((xs (6 * j + 2)).toInt) y_ % xp ((xs (6 * j + 1)).toInt)) (fun y_ => zG ar xl ((xs (6 * j + 3)).toInt) y_ % xp ((xs (6 * j + 1)).toInt)) ((xs (6 * j + 4)).toInt) ≤ 2147483647 := (hp.2.1 hk0).2
    have hbv : b1 = cyc (xp ((xs (6 * j + 1)).toInt)) (xz ((xs (6 * j + 1)).toInt)) (fun y_ => zG ar xl ((xs (6 * j + 2)).toInt) y_ % xp ((xs (6 * j + 1)).toInt)) (fun y_ => zG ar xl ((xs (6 * j + 3)).toInt) y_ % xp ((xs (6 * j + 1)).toInt)) ((xs (6 * j + 4)).toInt) := (hm.1 hk0).trans ((show cyc (xp ((xs (6 * j + 1)).toInt)) (xz ((xs (6 * j + 1)).toInt)) (fun y_ => zG ar xl ((xs (6 * j + 2)).toInt) y_ % xp ((xs (6 * j + 1)).toInt)) (fun y_ => zG ar xl ((xs (6 * j + 3)).toInt) y_ % xp ((xs (6 * j + 1)).toInt)) ((xs (6 * j + 4)).toInt) = _ from by rw [hag _ (kConvd_0 hk0).2.1, hag _ (kConvd_0 hk0).2.2]).symm)
    refine lv_aload_n hx hb dL_law_1038 rfl (lv_at hl 3 rfl) ?_
    refine z_iconst hx hb dL_law_1039 ?_
    have hPo := zf_sub hH.1 [(18, 0)] (List.forall_mem_cons.mpr ⟨zKf 18 rfl rfl, fun _ h => absurd h List.not_mem_nil⟩) (wc := [(ad (18, 0), .inl (cJ, 1, .inr (.inl o1)))]) rfl
    refine va_lald (f := o1) hx hb hK hPo 0 3 rfl rfl (z_in (i := 0) (n := 1) ⟨Int.le_refl _, by decide⟩ (by decide)) dL_law_1040 ?_
    rw [show (zI 0).toNatClampNeg = 0 from by decide, ho]
    refine lv_iload hx hb dL_law_1041 (lv_at hl 6 rfl) ?_
    refine z_eqI (b := cyc (xp ((xs (6 * j + 1)).toInt)) (xz ((xs (6 * j + 1)).toInt)) (fun y_ => zG ar xl ((xs (6 * j + 2)).toInt) y_ % xp ((xs (6 * j + 1)).toInt)) (fun y_ => zG ar xl ((xs (6 * j + 3)).toInt) y_ % xp ((xs (6 * j + 1)).toInt)) ((xs (6 * j + 4)).toInt)) hbv ?_
    refine z_i2l hx hb dL_law_1043 hvr ?_
    refine z_lcmp hx hb dL_law_1044 (by omega) (by omega) ?_
    refine z_ifC_eq (tgt := 1050) hx hb dL_law_1045 (by decide) (fun _ => ?_) (fun q => absurd rfl q)
    refine lv_goto (tgt := 1253) hx hb dL_law_1050 (by decide) ?_
    exact kk _ _ _ ⟨ad, ar1, md, xe1, xl1, xp, xz, xr, xm1, np, kConvd xl np xz ((xs (6 * j + 1)).toInt) ((xs (6 * j + 2)).toInt) ((xs (6 * j + 3)).toInt) ((xs (6 * j + 4)).toInt), pg, o1, hY1, hM1, hag1, hH, hS, lv_sub hl [0, 1, 2, 3, 4] rfl⟩

set_option maxHeartbeats 4000000 in
set_option maxRecDepth 100000 in
theorem L_case_filter_t {p : Program} {l : Launch} {e : Env} {s : State} {m : MethodId} {below : List Frame} {meth : Method} {c : Code} {b L : Nat} {xs : Nat → Int32} {D : va_G} {cI cW cP cJ : ClassId} {Q : State → Prop} (hC : zLX p l s m meth c b L xs D cI cW cP cJ) (j : Nat) (hj : 6 * j + 6 ≤ L) (H : Heap) (locs : List Loc) (ls : Array Slot) (hI : zLI s b D cI cW cP cJ (6 * (j : Int)) H locs ls) (hz : (xs (6 * j + 5)).toInt = 0) (kk : ∀ (H : Heap) (locs : List Loc) (ls : Array Slot), zLI s b D cI cW cP cJ (6 * (j : Int)) H locs ls → W p l e room_1 s m #[Value.ref b] below meth c H locs (30 + 2 * j + 2) (1500 + 70 * j + 70) Q (F0 m 1253 ls [])) : W p l e room_1 s m #[Value.ref b] below meth c H locs (30 + 2 * j) (1500 + 70 * j) Q (F0 m 1053 ls []) := by
  obtain ⟨hx, hb, hml, hown, hts, hX, hbl, hL, hl9, hXT, hK⟩ := hC
  obtain ⟨ad, ar, md, xe, xl, xp, xz, xr, xm, np, th, pg, o, hY, hM, hag, hH, hS, hl⟩ := hI
  have hA : ∀ q : Nat, s.heap.size ≤ q → (fun q : Nat => s.heap.size ≤ q) q := fun _ h => h
  have hbA : ¬ (fun q : Nat => s.heap.size ≤ q) b := Nat.not_le.mpr hbl
  have CF : CallFix p m c code 7 s #[Value.ref b] wsL_law RL := ⟨hx, hb, hml, hown, hts⟩
  refine lv_aload_n hx hb dL_law_1053 rfl (lv_at hl 1 rfl) ?_
  refine lv_aload_n hx hb dL_law_1054 rfl (lv_at hl 0 rfl) ?_
  refine lv_iload hx hb dL_law_1055 (lv_at hl 4 rfl) ?_
  refine z_iconst hx hb dL_law_1057 ?_
  refine z_iadd hx hb dL_law_1058 ?_
  refine z_sld (b := b) hx hb hX hbl hbA hS (6 * j + 1) (by omega) (by omega) hL dL_law_1059 ?_
  refine lv_aload_n hx hb dL_law_1060 rfl (lv_at hl 0 rfl) ?_
  refine lv_iload hx hb dL_law_1061 (lv_at hl 4 rfl) ?_
  refine z_iconst hx hb dL_law_1063 ?_
  refine z_iadd hx hb dL_law_1064 ?_
  refine z_sld (b := b) hx hb hX hbl hbA hS (6 * j + 2) (by omega) (by omega) hL dL_law_1065 ?_
  refine lv_aload_n hx hb dL_law_1066 rfl (lv_at hl 0 rfl) ?_
  refine lv_iload hx hb dL_law_1067 (lv_at hl 4 rfl) ?_
  refine z_iconst hx hb dL_law_1069 ?_
  refine z_iadd hx hb dL_law_1070 ?_
  refine z_sld (b := b) hx hb hX hbl hbA hS (6 * j + 3) (by omega) (by omega) hL dL_law_1071 ?_
  refine lv_aload_n hx hb dL_law_1072 rfl (lv_at hl 0 rfl) ?_
  refine lv_iload hx hb dL_law_1073 (lv_at hl 4 rfl) ?_
  refine z_iconst hx hb dL_law_1075 ?_
  refine z_iadd hx hb dL_law_1076 ?_
  refine z_sld (b := b) hx hb hX hbl hbA hS (6 * j + 4) (by omega) (by omega) hL dL_law_1077 ?_
  refine lv_aload_n hx hb dL_law_1078 rfl (lv_at hl 0 rfl) ?_
  refine lv_iload hx hb dL_law_1079 (lv_at hl 4 rfl) ?_
  refine z_iconst hx hb dL_law_1081 ?_
  refine z_iadd hx hb dL_law_1082 ?_
  refine z_sld (b := b) hx hb hX hbl hbA hS (6 * j + 5) (by omega) (by omega) hL dL_law_1083 ?_
  refine z_if_eq (tgt := 1091) hx hb dL_law_1084 (by decide) (by exact zI_rng _) (fun c_1084 => ?_) (fun c_1084 => absurd c_1084 (by omega))
  refine z_iconst hx hb dL_law_1091 ?_
  refine lv_aload_n hx hb dL_law_1092 rfl (lv_at hl 3 rfl) ?_
  refine zl_call (vx_runSW (hh := [(0, 16, 19, 13), (0, 16, 23, 15), (0, 16, 27, 17)]) (As := [.ref (ad (4, 0)), .int (zI ((xs (6 * j + 1)).toInt)), .int (zI ((xs (6 * j + 2)).toInt)), .int (zI ((xs (6 * j + 3)).toInt)), .int (zI ((xs (6 * j + 4)).toInt)), .int (zI 0), .ref (ad (18, 0))]) (rest := []) CF (W_filter l hl9 D cI cW cP cJ ad ar xl np xp xz pg o ((xs (6 * j + 1)).toInt) ((xs (6 * j + 2)).toInt) ((xs (6 * j + 3)).toInt) ((xs (6 * j + 4)).toInt) 0 hY (zI_rng _) (zI_rng _) (zI_rng _) (zI_rng _) (by decide) (by decide) (fun q : Nat => s.heap.size ≤ q) H.size) (vx_cwSW 7 hts gL_law_L_filter rfl rfl rfl (by decide +kernel) ⟨Nat.le_of_ble_eq_true rfl, Nat.le_of_ble_eq_true rfl⟩) (zl_preW hH hK hXT hS hA) rfl rfl hl.1 rfl (lv_room (Nat.le_of_ble_eq_true rfl)) dL_law_1093 ⟨by show 30 + 2 * j + 2 ≤ 601024; omega, by show 1500 + 70 * j + 70 ≤ 7293034; omega⟩) hH hS hA (cells' := 30 + 2 * j + 2) (slots' := 1500 + 70 * j + 70) rfl rfl (fun u H locs hp hH hS => ?_)
  obtain ⟨k1, o1, c1, ar1⟩ := u
  rw [kFilter_congr (G' := zGm xe xl) hag] at hp
  have hk1 : k1 = kFilter (zGm xe xl) xl ((xs (6 * j + 1)).toInt) ((xs (6 * j + 2)).toInt) ((xs (6 * j + 3)).toInt) ((xs (6 * j + 4)).toInt) := hp.1
  have hkr : 0 ≤ kFilter (zGm xe xl) xl ((xs (6 * j + 1)).toInt) ((xs (6 * j + 2)).toInt) ((xs (6 * j + 3)).toInt) ((xs (6 * j + 4)).toInt) ∧ kFilter (zGm xe xl) xl ((xs (6 * j + 1)).toInt) ((xs (6 * j + 2)).toInt) ((xs (6 * j + 3)).toInt) ((xs (6 * j + 4)).toInt) ≤ 3 := kFilter_r
  have hH : zHs D (zYK np) (zY cI cW cP cJ ad ar1 c1 np xp xz pg o1) (zM cI md xe xl xp xz xr xm np th) (fun q : Nat => s.heap.size ≤ q) H := hH
  refine lv_istore (lv' := [(5, .int (zI k1)), (0, .ref b), (1, .ref (ad (4, 0))), (2, .ref (md 0)), (3, .ref (ad (18, 0))), (4, .int (zI (6 * (j : Int))))]) hx hb dL_law_1096 hl (by decide) rfl (fun ls hl => ?_)
  have hl := lv_sub hl [1, 2, 3, 4, 5, 0] rfl
  have hl : lv_has ls 7 [(0, .ref b), (1, .ref (ad (4, 0))), (2, .ref (md 0)), (3, .ref (ad (18, 0))), (4, .int (zI (6 * (j : Int)))), (5, .int (zI k1))] := hl
  refine lv_aload_n hx hb dL_law_1098 rfl (lv_at hl 2 rfl) ?_
  refine lv_aload_n hx hb dL_law_1099 rfl (lv_at hl 0 rfl) ?_
  refine lv_iload hx hb dL_law_1100 (lv_at hl 4 rfl) ?_
  refine z_iconst hx hb dL_law_1102 ?_
  refine z_iadd hx hb dL_law_1103 ?_
  refine z_sld (b := b) hx hb hX hbl hbA hS (6 * j + 1) (by omega) (by omega) hL dL_law_1104 ?_
  refine lv_aload_n hx hb dL_law_1105 rfl (lv_at hl 0 rfl) ?_
  refine lv_iload hx hb dL_law_1106 (lv_at hl 4 rfl) ?_
  refine z_iconst hx hb dL_law_1108 ?_
  refine z_iadd hx hb dL_law_1109 ?_
  refine z_sld (b := b) hx hb hX hbl hbA hS (6 * j + 2) (by omega) (by omega) hL dL_law_1110 ?_
  refine lv_aload_n hx hb dL_law_1111 rfl (lv_at hl 0 rfl) ?_
  refine lv_iload hx hb dL_law_1112 (lv_at hl 4 rfl) ?_
  refine z_iconst hx hb dL_law_1114 ?_
  refine z_iadd hx hb dL_law_1115 ?_
  refine z_sld (b := b) hx hb hX hbl hbA hS (6 * j + 3) (by omega) (by omega) hL dL_law_1116 ?_
  refine lv_aload_n hx hb dL_law_1117 rfl (lv_at hl 0 rfl) ?_
  refine lv_iload hx hb dL_law_1118 (lv_at hl 4 rfl) ?_
  refine z_iconst hx hb dL_law_1120 ?_
  refine z_iadd hx hb dL_law_1121 ?_
  refine z_sld (b := b) hx hb hX hbl hbA hS (6 * j + 4) (by omega) (by omega) hL dL_law_1122 ?_
  refine lv_aload_n hx hb dL_law_1123 rfl (lv_at hl 0 rfl) ?_
  refine lv_iload hx hb dL_law_1124 (lv_at hl 4 rfl) ?_
  refine z_iconst hx hb dL_law_1126 ?_
  refine z_iadd hx hb dL_law_1127 ?_
  refine z_sld (b := b) hx hb hX hbl hbA hS (6 * j + 5) (by omega) (by omega) hL dL_law_1128 ?_
  refine z_if_eq (tgt := 1136) hx hb dL_law_1129 (by decide) (by exact zI_rng _) (fun c_1129 => ?_) (fun c_1129 => absurd c_1129 (by omega))
  refine z_iconst hx hb dL_law_1136 ?_
  refine zl_mcall (va_runV (As := [.int (zI ((xs (6 * j + 1)).toInt)), .int (zI ((xs (6 * j + 2)).toInt)), .int (zI ((xs (6 * j + 3)).toInt)), .int (zI ((xs (6 * j + 4)).toInt)), .int (zI 0)]) (rest := []) CF (M_filter l D cI md xe xl xp xz xr xm np th ((xs (6 * j + 1)).toInt) ((xs (6 * j + 2)).toInt) ((xs (6 * j + 3)).toInt) ((xs (6 * j + 4)).toInt) 0 hM (zI_rng _) (zI_rng _) (zI_rng _) (zI_rng _) (by decide) (by decide) H.size) (cwV 5 hts gL_law_X6_filter rfl rfl rfl (by decide +kernel) ⟨Nat.le_of_ble_eq_true rfl, Nat.le_of_ble_eq_true rfl⟩) (z_preV (va_recv hK hH.2.2.2.1 (ci := 5) (q0 := 0) rfl rfl) hH.2.2.2.1 hH.2.2.2.2.1 z_nilP (fun i j x y _ h => by simp at h) (hK.sub (tys' := [(cI, .int)]) [0] rfl)) rfl rfl hl.1 rfl (lv_room (Nat.le_of_ble_eq_true rfl)) dL_law_1137 ⟨by show 30 + 2 * j + 2 + 0 ≤ 601024; omega, by show 1500 + 70 * j + 70 + 0 ≤ 7293034; omega⟩) hH hS hA (cells' := 30 + 2 * j + 2) (slots' := 1500 + 70 * j + 70) rfl rfl (fun w H locs hm hH hS => ?_)
  obtain ⟨b1, xe1, xl1, xm1⟩ := w
  have hH : zHs D (zYK np) (zY cI cW cP cJ ad ar1 c1 np xp xz pg o1) (zM cI md xe1 xl1 xp xz xr xm1 np (kFilter (zGm xe xl) xl ((xs (6 * j + 1)).toInt) ((xs (6 * j + 2)).toInt) ((xs (6 * j + 3)).toInt) ((xs (6 * j + 4)).toInt))) (fun q : Nat => s.heap.size ≤ q) H := hH
  obtain ⟨e1, hY1, hM1, hag1⟩ := z_inv hY hM hag hp hm (fun q => v_filter hM hag q.1)
  have e1 : xl1 = c1 := e1
  subst e1
  have hY1 : zYI ad ar1 xl1 np xp xz pg := hY1
  have hM1 : zMI xe1 xl1 xp xz xr np := hM1
  have hag1 : zSame ar1 xe1 xl1 := hag1
  refine lv_istore (lv' := [(6, .int (zI b1)), (0, .ref b), (1, .ref (ad (4, 0))), (2, .ref (md 0)), (3, .ref (ad (18, 0))), (4, .int (zI (6 * (j : Int)))), (5, .int (zI k1))]) hx hb dL_law_1140 hl (by decide) rfl (fun ls hl => ?_)
  have hl := lv_sub hl [1, 2, 3, 4, 5, 6, 0] rfl
  have hl : lv_has ls 7 [(0, .ref b), (1, .ref (ad (4, 0))), (2, .ref (md 0)), (3, .ref (ad (18, 0))), (4, .int (zI (6 * (j : Int)))), (5, .int (zI k1)), (6, .int (zI b1))] := hl
  refine lv_aload_n hx hb dL_law_1142 rfl (lv_at hl 2 rfl) ?_
  have hRc := hH.2.2.2.1.sub (ws' := [(md 0, .inr (5, [.ref (md 1), .ref (md 2), .ref (md 3), .ref (md 4), .ref (md 5), .int (zI np), .ref (md 6), .int (zI (kFilter (zGm xe xl) xl ((xs (6 * j + 1)).toInt) ((xs (6 * j + 2)).toInt) ((xs (6 * j + 3)).toInt) ((xs (6 * j + 4)).toInt)))]))]) [0] rfl
  refine zl_ro (va_runV (As := []) (rest := []) CF (c_X6_thrown l D (md 0) (md 1) (md 2) (md 3) (md 4) (md 5) (md 6) np (kFilter (zGm xe xl) xl ((xs (6 * j + 1)).toInt) ((xs (6 * j + 2)).toInt) ((xs (6 * j + 3)).toInt) ((xs (6 * j + 4)).toInt)) H.size) (cwV 0 hts gL_law_X6_thrown rfl rfl rfl (by decide +kernel) ⟨Nat.le_of_ble_eq_true rfl, Nat.le_of_ble_eq_true rfl⟩) (z_preV (va_recv hK hH.2.2.2.1 (ci := 5) (q0 := 0) rfl rfl) z_nilP (z_nilD (A := (fun q : Nat => s.heap.size ≤ q))) hRc z_noX (hK.sub (tys' := []) [] rfl)) rfl rfl hl.1 rfl (lv_room (Nat.le_of_ble_eq_true rfl)) dL_law_1143 ⟨by show 30 + 2 * j + 2 + 0 ≤ 601024; omega, by show 1500 + 70 * j + 70 + 0 ≤ 7293034; omega⟩) hH hS hA (cells' := 30 + 2 * j + 2) (slots' := 1500 + 70 * j + 70) rfl rfl (fun H locs hH hS => ?_)
  refine lv_iload hx hb dL_law_1146 (lv_at hl 5 rfl) ?_
  refine lv_icmp_eq (tgt := 1153) hx hb dL_law_1148 (by decide) (fun _ => ?_) (fun q => absurd (congrArg zI hk1.symm) q)
  refine lv_iload hx hb dL_law_1153 (lv_at hl 5 rfl) ?_
  refine z_if_ne (tgt := 1170) hx hb dL_law_1155 (by decide) (by omega) (fun c_0 => ?_) (fun c_0 => ?_)
  · refine lv_goto (tgt := 1253) hx hb dL_law_1170 (by decide) ?_
    exact kk _ _ _ ⟨ad, ar1, md, xe1, xl1, xp, xz, xr, xm1, np, kFilter (zGm xe xl) xl ((xs (6 * j + 1)).toInt) ((xs (6 * j + 2)).toInt) ((xs (6 * j + 3)).toInt) ((xs (6 * j + 4)).toInt), pg, o1, hY1, hM1, hag1, hH, hS, lv_sub hl [0, 1, 2, 3, 4] rfl⟩
  · have hk0 := hk1.symm.trans c_0
    have ho : o1 0 = zL (xl ((xs (6 * j + 1)).toInt) + xl ((xs (6 * j + 2)).toInt) - 1) := (hp.2.1 hk0).1
    have hvr : -2147483648 ≤ xl ((xs (6 * j + 1)).toInt) + xl ((xs (6 * j + 2)).toInt) - 1 ∧ xl ((xs (6 * j + 1)).toInt) + xl ((xs (6 * j + 2)).toInt) - 1 ≤ 2147483647 := (hp.2.1 hk0).2
    have hbv : b1 = xl ((xs (6 * j + 1)).toInt) + xl ((xs (6 * j + 2)).toInt) - 1 := (hm.1 hk0).trans (rfl)
    refine lv_aload_n hx hb dL_law_1158 rfl (lv_at hl 3 rfl) ?_
    refine z_iconst hx hb dL_law_1159 ?_
    have hPo := zf_sub hH.1 [(18, 0)] (List.forall_mem_cons.mpr ⟨zKf 18 rfl rfl, fun _ h => absurd h List.not_mem_nil⟩) (wc := [(ad (18, 0), .inl (cJ, 1, .inr (.inl o1)))]) rfl
    refine va_lald (f := o1) hx hb hK hPo 0 3 rfl rfl (z_in (i := 0) (n := 1) ⟨Int.le_refl _, by decide⟩ (by decide)) dL_law_1160 ?_
    rw [show (zI 0).toNatClampNeg = 0 from by decide, ho]
    refine lv_iload hx hb dL_law_1161 (lv_at hl 6 rfl) ?_
    refine z_eqI (b := xl ((xs (6 * j + 1)).toInt) + xl ((xs (6 * j + 2)).toInt) - 1) hbv ?_
    refine z_i2l hx hb dL_law_1163 hvr ?_
    refine z_lcmp hx hb dL_law_1164 (by omega) (by omega) ?_
    refine z_ifC_eq (tgt := 1170) hx hb dL_law_1165 (by decide) (fun _ => ?_) (fun q => absurd rfl q)
    refine lv_goto (tgt := 1253) hx hb dL_law_1170 (by decide) ?_
    exact kk _ _ _ ⟨ad, ar1, md, xe1, xl1, xp, xz, xr, xm1, np, kFilter (zGm xe xl) xl ((xs (6 * j + 1)).toInt) ((xs (6 * j + 2)).toInt) ((xs (6 * j + 3)).toInt) ((xs (6 * j + 4)).toInt), pg, o1, hY1, hM1, hag1, hH, hS, lv_sub hl [0, 1, 2, 3, 4] rfl⟩

set_option maxHeartbeats 4000000 in
set_option maxRecDepth 100000 in
theorem L_case_filter_f {p : Program} {l : Launch} {e : Env} {s : State} {m : MethodId} {below : List Frame} {meth : Method} {c : Code} {b L : Nat} {xs : Nat → Int32} {D : va_G} {cI cW cP cJ : ClassId} {Q : State → Prop} (hC : zLX p l s m meth c b L xs D cI cW cP cJ) (j : Nat) (hj : 6 * j + 6 ≤ L) (H : Heap) (locs : List Loc) (ls : Array Slot) (hI : zLI s b D cI cW cP cJ (6 * (j : Int)) H locs ls) (hz : (xs (6 * j + 5)).toInt ≠ 0) (kk : ∀ (H : Heap) (locs : List Loc) (ls : Array Slot), zLI s b D cI cW cP cJ (6 * (j : Int)) H locs ls → W p l e room_1 s m #[Value.ref b] below meth c H locs (30 + 2 * j + 2) (1500 + 70 * j + 70) Q (F0 m 1253 ls [])) : W p l e room_1 s m #[Value.ref b] below meth c H locs (30 + 2 * j) (1500 + 70 * j) Q (F0 m 1053 ls []) := by
  obtain ⟨hx, hb, hml, hown, hts, hX, hbl, hL, hl9, hXT, hK⟩ := hC
  obtain ⟨ad, ar, md, xe, xl, xp, xz, xr, xm, np, th, pg, o, hY, hM, hag, hH, hS, hl⟩ := hI
  have hA : ∀ q : Nat, s.heap.size ≤ q → (fun q : Nat => s.heap.size ≤ q) q := fun _ h => h
  have hbA : ¬ (fun q : Nat => s.heap.size ≤ q) b := Nat.not_le.mpr hbl
  have CF : CallFix p m c code 7 s #[Value.ref b] wsL_law RL := ⟨hx, hb, hml, hown, hts⟩
  refine lv_aload_n hx hb dL_law_1053 rfl (lv_at hl 1 rfl) ?_
  refine lv_aload_n hx hb dL_law_1054 rfl (lv_at hl 0 rfl) ?_
  refine lv_iload hx hb dL_law_1055 (lv_at hl 4 rfl) ?_
  refine z_iconst hx hb dL_law_1057 ?_
  refine z_iadd hx hb dL_law_1058 ?_
  refine z_sld (b := b) hx hb hX hbl hbA hS (6 * j + 1) (by omega) (by omega) hL dL_law_1059 ?_
  refine lv_aload_n hx hb dL_law_1060 rfl (lv_at hl 0 rfl) ?_
  refine lv_iload hx hb dL_law_1061 (lv_at hl 4 rfl) ?_
  refine z_iconst hx hb dL_law_1063 ?_
  refine z_iadd hx hb dL_law_1064 ?_
  refine z_sld (b := b) hx hb hX hbl hbA hS (6 * j + 2) (by omega) (by omega) hL dL_law_1065 ?_
  refine lv_aload_n hx hb dL_law_1066 rfl (lv_at hl 0 rfl) ?_
  refine lv_iload hx hb dL_law_1067 (lv_at hl 4 rfl) ?_
  refine z_iconst hx hb dL_law_1069 ?_
  refine z_iadd hx hb dL_law_1070 ?_
  refine z_sld (b := b) hx hb hX hbl hbA hS (6 * j + 3) (by omega) (by omega) hL dL_law_1071 ?_
  refine lv_aload_n hx hb dL_law_1072 rfl (lv_at hl 0 rfl) ?_
  refine lv_iload hx hb dL_law_1073 (lv_at hl 4 rfl) ?_
  refine z_iconst hx hb dL_law_1075 ?_
  refine z_iadd hx hb dL_law_1076 ?_
  refine z_sld (b := b) hx hb hX hbl hbA hS (6 * j + 4) (by omega) (by omega) hL dL_law_1077 ?_
  refine lv_aload_n hx hb dL_law_1078 rfl (lv_at hl 0 rfl) ?_
  refine lv_iload hx hb dL_law_1079 (lv_at hl 4 rfl) ?_
  refine z_iconst hx hb dL_law_1081 ?_
  refine z_iadd hx hb dL_law_1082 ?_
  refine z_sld (b := b) hx hb hX hbl hbA hS (6 * j + 5) (by omega) (by omega) hL dL_law_1083 ?_
  refine z_if_eq (tgt := 1091) hx hb dL_law_1084 (by decide) (by exact zI_rng _) (fun c_1084 => absurd c_1084 (by omega)) (fun c_1084 => ?_)
  refine z_iconst hx hb dL_law_1087 ?_
  refine lv_goto (tgt := 1092) hx hb dL_law_1088 (by decide) ?_
  refine lv_aload_n hx hb dL_law_1092 rfl (lv_at hl 3 rfl) ?_
  refine zl_call (vx_runSW (hh := [(0, 16, 19, 13), (0, 16, 23, 15), (0, 16, 27, 17)]) (As := [.ref (ad (4, 0)), .int (zI ((xs (6 * j + 1)).toInt)), .int (zI ((xs (6 * j + 2)).toInt)), .int (zI ((xs (6 * j + 3)).toInt)), .int (zI ((xs (6 * j + 4)).toInt)), .int (zI 1), .ref (ad (18, 0))]) (rest := []) CF (W_filter l hl9 D cI cW cP cJ ad ar xl np xp xz pg o ((xs (6 * j + 1)).toInt) ((xs (6 * j + 2)).toInt) ((xs (6 * j + 3)).toInt) ((xs (6 * j + 4)).toInt) 1 hY (zI_rng _) (zI_rng _) (zI_rng _) (zI_rng _) (by decide) (by decide) (fun q : Nat => s.heap.size ≤ q) H.size) (vx_cwSW 7 hts gL_law_L_filter rfl rfl rfl (by decide +kernel) ⟨Nat.le_of_ble_eq_true rfl, Nat.le_of_ble_eq_true rfl⟩) (zl_preW hH hK hXT hS hA) rfl rfl hl.1 rfl (lv_room (Nat.le_of_ble_eq_true rfl)) dL_law_1093 ⟨by show 30 + 2 * j + 2 ≤ 601024; omega, by show 1500 + 70 * j + 70 ≤ 7293034; omega⟩) hH hS hA (cells' := 30 + 2 * j + 2) (slots' := 1500 + 70 * j + 70) rfl rfl (fun u H locs hp hH hS => ?_)
  obtain ⟨k1, o1, c1, ar1⟩ := u
  rw [kFilter_congr (G' := zGm xe xl) hag] at hp
  have hk1 : k1 = kFilter (zGm xe xl) xl ((xs (6 * j + 1)).toInt) ((xs (6 * j + 2)).toInt) ((xs (6 * j + 3)).toInt) ((xs (6 * j + 4)).toInt) := hp.1
  have hkr : 0 ≤ kFilter (zGm xe xl) xl ((xs (6 * j + 1)).toInt) ((xs (6 * j + 2)).toInt) ((xs (6 * j + 3)).toInt) ((xs (6 * j + 4)).toInt) ∧ kFilter (zGm xe xl) xl ((xs (6 * j + 1)).toInt) ((xs (6 * j + 2)).toInt) ((xs (6 * j + 3)).toInt) ((xs (6 * j + 4)).toInt) ≤ 3 := kFilter_r
  have hH : zHs D (zYK np) (zY cI cW cP cJ ad ar1 c1 np xp xz pg o1) (zM cI md xe xl xp xz xr xm np th) (fun q : Nat => s.heap.size ≤ q) H := hH
  refine lv_istore (lv' := [(5, .int (zI k1)), (0, .ref b), (1, .ref (ad (4, 0))), (2, .ref (md 0)), (3, .ref (ad (18, 0))), (4, .int (zI (6 * (j : Int))))]) hx hb dL_law_1096 hl (by decide) rfl (fun ls hl => ?_)
  have hl := lv_sub hl [1, 2, 3, 4, 5, 0] rfl
  have hl : lv_has ls 7 [(0, .ref b), (1, .ref (ad (4, 0))), (2, .ref (md 0)), (3, .ref (ad (18, 0))), (4, .int (zI (6 * (j : Int)))), (5, .int (zI k1))] := hl
  refine lv_aload_n hx hb dL_law_1098 rfl (lv_at hl 2 rfl) ?_
  refine lv_aload_n hx hb dL_law_1099 rfl (lv_at hl 0 rfl) ?_
  refine lv_iload hx hb dL_law_1100 (lv_at hl 4 rfl) ?_
  refine z_iconst hx hb dL_law_1102 ?_
  refine z_iadd hx hb dL_law_1103 ?_
  refine z_sld (b := b) hx hb hX hbl hbA hS (6 * j + 1) (by omega) (by omega) hL dL_law_1104 ?_
  refine lv_aload_n hx hb dL_law_1105 rfl (lv_at hl 0 rfl) ?_
  refine lv_iload hx hb dL_law_1106 (lv_at hl 4 rfl) ?_
  refine z_iconst hx hb dL_law_1108 ?_
  refine z_iadd hx hb dL_law_1109 ?_
  refine z_sld (b := b) hx hb hX hbl hbA hS (6 * j + 2) (by omega) (by omega) hL dL_law_1110 ?_
  refine lv_aload_n hx hb dL_law_1111 rfl (lv_at hl 0 rfl) ?_
  refine lv_iload hx hb dL_law_1112 (lv_at hl 4 rfl) ?_
  refine z_iconst hx hb dL_law_1114 ?_
  refine z_iadd hx hb dL_law_1115 ?_
  refine z_sld (b := b) hx hb hX hbl hbA hS (6 * j + 3) (by omega) (by omega) hL dL_law_1116 ?_
  refine lv_aload_n hx hb dL_law_1117 rfl (lv_at hl 0 rfl) ?_
  refine lv_iload hx hb dL_law_1118 (lv_at hl 4 rfl) ?_
  refine z_iconst hx hb dL_law_1120 ?_
  refine z_iadd hx hb dL_law_1121 ?_
  refine z_sld (b := b) hx hb hX hbl hbA hS (6 * j + 4) (by omega) (by omega) hL dL_law_1122 ?_
  refine lv_aload_n hx hb dL_law_1123 rfl (lv_at hl 0 rfl) ?_
  refine lv_iload hx hb dL_law_1124 (lv_at hl 4 rfl) ?_
  refine z_iconst hx hb dL_law_1126 ?_
  refine z_iadd hx hb dL_law_1127 ?_
  refine z_sld (b := b) hx hb hX hbl hbA hS (6 * j + 5) (by omega) (by omega) hL dL_law_1128 ?_
  refine z_if_eq (tgt := 1136) hx hb dL_law_1129 (by decide) (by exact zI_rng _) (fun c_1129 => absurd c_1129 (by omega)) (fun c_1129 => ?_)
  refine z_iconst hx hb dL_law_1132 ?_
  refine lv_goto (tgt := 1137) hx hb dL_law_1133 (by decide) ?_
  refine zl_mcall (va_runV (As := [.int (zI ((xs (6 * j + 1)).toInt)), .int (zI ((xs (6 * j + 2)).toInt)), .int (zI ((xs (6 * j + 3)).toInt)), .int (zI ((xs (6 * j + 4)).toInt)), .int (zI 1)]) (rest := []) CF (M_filter l D cI md xe xl xp xz xr xm np th ((xs (6 * j + 1)).toInt) ((xs (6 * j + 2)).toInt) ((xs (6 * j + 3)).toInt) ((xs (6 * j + 4)).toInt) 1 hM (zI_rng _) (zI_rng _) (zI_rng _) (zI_rng _) (by decide) (by decide) H.size) (cwV 5 hts gL_law_X6_filter rfl rfl rfl (by decide +kernel) ⟨Nat.le_of_ble_eq_true rfl, Nat.le_of_ble_eq_true rfl⟩) (z_preV (va_recv hK hH.2.2.2.1 (ci := 5) (q0 := 0) rfl rfl) hH.2.2.2.1 hH.2.2.2.2.1 z_nilP (fun i j x y _ h => by simp at h) (hK.sub (tys' := [(cI, .int)]) [0] rfl)) rfl rfl hl.1 rfl (lv_room (Nat.le_of_ble_eq_true rfl)) dL_law_1137 ⟨by show 30 + 2 * j + 2 + 0 ≤ 601024; omega, by show 1500 + 70 * j + 70 + 0 ≤ 7293034; omega⟩) hH hS hA (cells' := 30 + 2 * j + 2) (slots' := 1500 + 70 * j + 70) rfl rfl (fun w H locs hm hH hS => ?_)
  obtain ⟨b1, xe1, xl1, xm1⟩ := w
  have hH : zHs D (zYK np) (zY cI cW cP cJ ad ar1 c1 np xp xz pg o1) (zM cI md xe1 xl1 xp xz xr xm1 np (kFilter (zGm xe xl) xl ((xs (6 * j + 1)).toInt) ((xs (6 * j + 2)).toInt) ((xs (6 * j + 3)).toInt) ((xs (6 * j + 4)).toInt))) (fun q : Nat => s.heap.size ≤ q) H := hH
  obtain ⟨e1, hY1, hM1, hag1⟩ := z_inv hY hM hag hp hm (fun q => v_filter hM hag q.1)
  have e1 : xl1 = c1 := e1
  subst e1
  have hY1 : zYI ad ar1 xl1 np xp xz pg := hY1
  have hM1 : zMI xe1 xl1 xp xz xr np := hM1
  have hag1 : zSame ar1 xe1 xl1 := hag1
  refine lv_istore (lv' := [(6, .int (zI b1)), (0, .ref b), (1, .ref (ad (4, 0))), (2, .ref (md 0)), (3, .ref (ad (18, 0))), (4, .int (zI (6 * (j : Int)))), (5, .int (zI k1))]) hx hb dL_law_1140 hl (by decide) rfl (fun ls hl => ?_)
  have hl := lv_sub hl [1, 2, 3, 4, 5, 6, 0] rfl
  have hl : lv_has ls 7 [(0, .ref b), (1, .ref (ad (4, 0))), (2, .ref (md 0)), (3, .ref (ad (18, 0))), (4, .int (zI (6 * (j : Int)))), (5, .int (zI k1)), (6, .int (zI b1))] := hl
  refine lv_aload_n hx hb dL_law_1142 rfl (lv_at hl 2 rfl) ?_
  have hRc := hH.2.2.2.1.sub (ws' := [(md 0, .inr (5, [.ref (md 1), .ref (md 2), .ref (md 3), .ref (md 4), .ref (md 5), .int (zI np), .ref (md 6), .int (zI (kFilter (zGm xe xl) xl ((xs (6 * j + 1)).toInt) ((xs (6 * j + 2)).toInt) ((xs (6 * j + 3)).toInt) ((xs (6 * j + 4)).toInt)))]))]) [0] rfl
  refine zl_ro (va_runV (As := []) (rest := []) CF (c_X6_thrown l D (md 0) (md 1) (md 2) (md 3) (md 4) (md 5) (md 6) np (kFilter (zGm xe xl) xl ((xs (6 * j + 1)).toInt) ((xs (6 * j + 2)).toInt) ((xs (6 * j + 3)).toInt) ((xs (6 * j + 4)).toInt)) H.size) (cwV 0 hts gL_law_X6_thrown rfl rfl rfl (by decide +kernel) ⟨Nat.le_of_ble_eq_true rfl, Nat.le_of_ble_eq_true rfl⟩) (z_preV (va_recv hK hH.2.2.2.1 (ci := 5) (q0 := 0) rfl rfl) z_nilP (z_nilD (A := (fun q : Nat => s.heap.size ≤ q))) hRc z_noX (hK.sub (tys' := []) [] rfl)) rfl rfl hl.1 rfl (lv_room (Nat.le_of_ble_eq_true rfl)) dL_law_1143 ⟨by show 30 + 2 * j + 2 + 0 ≤ 601024; omega, by show 1500 + 70 * j + 70 + 0 ≤ 7293034; omega⟩) hH hS hA (cells' := 30 + 2 * j + 2) (slots' := 1500 + 70 * j + 70) rfl rfl (fun H locs hH hS => ?_)
  refine lv_iload hx hb dL_law_1146 (lv_at hl 5 rfl) ?_
  refine lv_icmp_eq (tgt := 1153) hx hb dL_law_1148 (by decide) (fun _ => ?_) (fun q => absurd (congrArg zI hk1.symm) q)
  refine lv_iload hx hb dL_law_1153 (lv_at hl 5 rfl) ?_
  refine z_if_ne (tgt := 1170) hx hb dL_law_1155 (by decide) (by omega) (fun c_0 => ?_) (fun c_0 => ?_)
  · refine lv_goto (tgt := 1253) hx hb dL_law_1170 (by decide) ?_
    exact kk _ _ _ ⟨ad, ar1, md, xe1, xl1, xp, xz, xr, xm1, np, kFilter (zGm xe xl) xl ((xs (6 * j + 1)).toInt) ((xs (6 * j + 2)).toInt) ((xs (6 * j + 3)).toInt) ((xs (6 * j + 4)).toInt), pg, o1, hY1, hM1, hag1, hH, hS, lv_sub hl [0, 1, 2, 3, 4] rfl⟩
  · have hk0 := hk1.symm.trans c_0
    have ho : o1 0 = zL (xl ((xs (6 * j + 1)).toInt) + xl ((xs (6 * j + 2)).toInt) - 1) := (hp.2.1 hk0).1
    have hvr : -2147483648 ≤ xl ((xs (6 * j + 1)).toInt) + xl ((xs (6 * j + 2)).toInt) - 1 ∧ xl ((xs (6 * j + 1)).toInt) + xl ((xs (6 * j + 2)).toInt) - 1 ≤ 2147483647 := (hp.2.1 hk0).2
    have hbv : b1 = xl ((xs (6 * j + 1)).toInt) + xl ((xs (6 * j + 2)).toInt) - 1 := (hm.1 hk0).trans (rfl)
    refine lv_aload_n hx hb dL_law_1158 rfl (lv_at hl 3 rfl) ?_
    refine z_iconst hx hb dL_law_1159 ?_
    have hPo := zf_sub hH.1 [(18, 0)] (List.forall_mem_cons.mpr ⟨zKf 18 rfl rfl, fun _ h => absurd h List.not_mem_nil⟩) (wc := [(ad (18, 0), .inl (cJ, 1, .inr (.inl o1)))]) rfl
    refine va_lald (f := o1) hx hb hK hPo 0 3 rfl rfl (z_in (i := 0) (n := 1) ⟨Int.le_refl _, by decide⟩ (by decide)) dL_law_1160 ?_
    rw [show (zI 0).toNatClampNeg = 0 from by decide, ho]
    refine lv_iload hx hb dL_law_1161 (lv_at hl 6 rfl) ?_
    refine z_eqI (b := xl ((xs (6 * j + 1)).toInt) + xl ((xs (6 * j + 2)).toInt) - 1) hbv ?_
    refine z_i2l hx hb dL_law_1163 hvr ?_
    refine z_lcmp hx hb dL_law_1164 (by omega) (by omega) ?_
    refine z_ifC_eq (tgt := 1170) hx hb dL_law_1165 (by decide) (fun _ => ?_) (fun q => absurd rfl q)
    refine lv_goto (tgt := 1253) hx hb dL_law_1170 (by decide) ?_
    exact kk _ _ _ ⟨ad, ar1, md, xe1, xl1, xp, xz, xr, xm1, np, kFilter (zGm xe xl) xl ((xs (6 * j + 1)).toInt) ((xs (6 * j + 2)).toInt) ((xs (6 * j + 3)).toInt) ((xs (6 * j + 4)).toInt), pg, o1, hY1, hM1, hag1, hH, hS, lv_sub hl [0, 1, 2, 3, 4] rfl⟩

set_option maxHeartbeats 4000000 in
set_option maxRecDepth 100000 in
theorem L_case_multiply {p : Program} {l : Launch} {e : Env} {s : State} {m : MethodId} {below : List Frame} {meth : Method} {c : Code} {b L : Nat} {xs : Nat → Int32} {D : va_G} {cI cW cP cJ : ClassId} {Q : State → Prop} (hC : zLX p l s m meth c b L xs D cI cW cP cJ) (j : Nat) (hj : 6 * j + 6 ≤ L) (H : Heap) (locs : List Loc) (ls : Array Slot) (hI : zLI s b D cI cW cP cJ (6 * (j : Int)) H locs ls) (kk : ∀ (H : Heap) (locs : List Loc) (ls : Array Slot), zLI s b D cI cW cP cJ (6 * (j : Int)) H locs ls → W p l e room_1 s m #[Value.ref b] below meth c H locs (30 + 2 * j + 2) (1500 + 70 * j + 70) Q (F0 m 1253 ls [])) : W p l e room_1 s m #[Value.ref b] below meth c H locs (30 + 2 * j) (1500 + 70 * j) Q (F0 m 1173 ls []) := by
  obtain ⟨hx, hb, hml, hown, hts, hX, hbl, hL, hl9, hXT, hK⟩ := hC
  obtain ⟨ad, ar, md, xe, xl, xp, xz, xr, xm, np, th, pg, o, hY, hM, hag, hH, hS, hl⟩ := hI
  have hA : ∀ q : Nat, s.heap.size ≤ q → (fun q : Nat => s.heap.size ≤ q) q := fun _ h => h
  have hbA : ¬ (fun q : Nat => s.heap.size ≤ q) b := Nat.not_le.mpr hbl
  have CF : CallFix p m c code 7 s #[Value.ref b] wsL_law RL := ⟨hx, hb, hml, hown, hts⟩
  refine lv_aload_n hx hb dL_law_1173 rfl (lv_at hl 1 rfl) ?_
  refine lv_aload_n hx hb dL_law_1174 rfl (lv_at hl 0 rfl) ?_
  refine lv_iload hx hb dL_law_1175 (lv_at hl 4 rfl) ?_
  refine z_iconst hx hb dL_law_1177 ?_
  refine z_iadd hx hb dL_law_1178 ?_
  refine z_sld (b := b) hx hb hX hbl hbA hS (6 * j + 1) (by omega) (by omega) hL dL_law_1179 ?_
  refine lv_aload_n hx hb dL_law_1180 rfl (lv_at hl 0 rfl) ?_
  refine lv_iload hx hb dL_law_1181 (lv_at hl 4 rfl) ?_
  refine z_iconst hx hb dL_law_1183 ?_
  refine z_iadd hx hb dL_law_1184 ?_
  refine z_sld (b := b) hx hb hX hbl hbA hS (6 * j + 2) (by omega) (by omega) hL dL_law_1185 ?_
  refine lv_aload_n hx hb dL_law_1186 rfl (lv_at hl 0 rfl) ?_
  refine lv_iload hx hb dL_law_1187 (lv_at hl 4 rfl) ?_
  refine z_iconst hx hb dL_law_1189 ?_
  refine z_iadd hx hb dL_law_1190 ?_
  refine z_sld (b := b) hx hb hX hbl hbA hS (6 * j + 3) (by omega) (by omega) hL dL_law_1191 ?_
  refine lv_aload_n hx hb dL_law_1192 rfl (lv_at hl 3 rfl) ?_
  refine zl_call (vx_runSW (hh := [(0, 12, 15, 13), (0, 12, 19, 15), (0, 12, 23, 17)]) (As := [.ref (ad (4, 0)), .int (zI ((xs (6 * j + 1)).toInt)), .int (zI ((xs (6 * j + 2)).toInt)), .int (zI ((xs (6 * j + 3)).toInt)), .ref (ad (18, 0))]) (rest := []) CF (W_multiply l hl9 D cI cW cP cJ ad ar xl np xp xz pg o ((xs (6 * j + 1)).toInt) ((xs (6 * j + 2)).toInt) ((xs (6 * j + 3)).toInt) hY (zI_rng _) (zI_rng _) (zI_rng _) (fun q : Nat => s.heap.size ≤ q) H.size) (vx_cwSW 5 hts gL_law_L_multiply rfl rfl rfl (by decide +kernel) ⟨Nat.le_of_ble_eq_true rfl, Nat.le_of_ble_eq_true rfl⟩) (zl_preW hH hK hXT hS hA) rfl rfl hl.1 rfl (lv_room (Nat.le_of_ble_eq_true rfl)) dL_law_1193 ⟨by show 30 + 2 * j + 2 ≤ 601024; omega, by show 1500 + 70 * j + 70 ≤ 7293034; omega⟩) hH hS hA (cells' := 30 + 2 * j + 2) (slots' := 1500 + 70 * j + 70) rfl rfl (fun u H locs hp hH hS => ?_)
  obtain ⟨k1, o1, c1, ar1⟩ := u
  rw [kMult_congr (G' := zGm xe xl) hag] at hp
  have hp : zWp (kMult (zGm xe xl) xl ((xs (6 * j + 1)).toInt) ((xs (6 * j + 2)).toInt) ((xs (6 * j + 3)).toInt)) (ndI (zLn (zGm xe xl) xl ((xs (6 * j + 1)).toInt) ((xs (6 * j + 2)).toInt)) (xl ((xs (6 * j + 1)).toInt) + xl ((xs (6 * j + 2)).toInt))) True xl ar ((xs (6 * j + 3)).toInt) (ndI (zLn (zGm xe xl) xl ((xs (6 * j + 1)).toInt) ((xs (6 * j + 2)).toInt)) (xl ((xs (6 * j + 1)).toInt) + xl ((xs (6 * j + 2)).toInt))) (dgI (zLn (zGm xe xl) xl ((xs (6 * j + 1)).toInt) ((xs (6 * j + 2)).toInt))) (k1, o1, c1, ar1) := by
    by_cases q : kMult (zGm xe xl) xl ((xs (6 * j + 1)).toInt) ((xs (6 * j + 2)).toInt) ((xs (6 * j + 3)).toInt) = 0
    · rw [zLn_eq (xe := xe) hag (kMult_0 q).1 (kMult_0 q).2.1] at hp
      exact hp
    · exact zWp_any q hp
  have hk1 : k1 = kMult (zGm xe xl) xl ((xs (6 * j + 1)).toInt) ((xs (6 * j + 2)).toInt) ((xs (6 * j + 3)).toInt) := hp.1
  have hkr : 0 ≤ kMult (zGm xe xl) xl ((xs (6 * j + 1)).toInt) ((xs (6 * j + 2)).toInt) ((xs (6 * j + 3)).toInt) ∧ kMult (zGm xe xl) xl ((xs (6 * j + 1)).toInt) ((xs (6 * j + 2)).toInt) ((xs (6 * j + 3)).toInt) ≤ 3 := kMult_r
  have hH : zHs D (zYK np) (zY cI cW cP cJ ad ar1 c1 np xp xz pg o1) (zM cI md xe xl xp xz xr xm np th) (fun q : Nat => s.heap.size ≤ q) H := hH
  refine lv_istore (lv' := [(5, .int (zI k1)), (0, .ref b), (1, .ref (ad (4, 0))), (2, .ref (md 0)), (3, .ref (ad (18, 0))), (4, .int (zI (6 * (j : Int))))]) hx hb dL_law_1196 hl (by decide) rfl (fun ls hl => ?_)
  have hl := lv_sub hl [1, 2, 3, 4, 5, 0] rfl
  have hl : lv_has ls 7 [(0, .ref b), (1, .ref (ad (4, 0))), (2, .ref (md 0)), (3, .ref (ad (18, 0))), (4, .int (zI (6 * (j : Int)))), (5, .int (zI k1))] := hl
  refine lv_aload_n hx hb dL_law_1198 rfl (lv_at hl 2 rfl) ?_
  refine lv_aload_n hx hb dL_law_1199 rfl (lv_at hl 0 rfl) ?_
  refine lv_iload hx hb dL_law_1200 (lv_at hl 4 rfl) ?_
  refine z_iconst hx hb dL_law_1202 ?_
  refine z_iadd hx hb dL_law_1203 ?_
  refine z_sld (b := b) hx hb hX hbl hbA hS (6 * j + 1) (by omega) (by omega) hL dL_law_1204 ?_
  refine lv_aload_n hx hb dL_law_1205 rfl (lv_at hl 0 rfl) ?_
  refine lv_iload hx hb dL_law_1206 (lv_at hl 4 rfl) ?_
  refine z_iconst hx hb dL_law_1208 ?_
  refine z_iadd hx hb dL_law_1209 ?_
  refine z_sld (b := b) hx hb hX hbl hbA hS (6 * j + 2) (by omega) (by omega) hL dL_law_1210 ?_
  refine lv_aload_n hx hb dL_law_1211 rfl (lv_at hl 0 rfl) ?_
  refine lv_iload hx hb dL_law_1212 (lv_at hl 4 rfl) ?_
  refine z_iconst hx hb dL_law_1214 ?_
  refine z_iadd hx hb dL_law_1215 ?_
  refine z_sld (b := b) hx hb hX hbl hbA hS (6 * j + 3) (by omega) (by omega) hL dL_law_1216 ?_
  refine zl_mcall (va_runV (As := [.int (zI ((xs (6 * j + 1)).toInt)), .int (zI ((xs (6 * j + 2)).toInt)), .int (zI ((xs (6 * j + 3)).toInt))]) (rest := []) CF (M_multiply l D cI md xe xl xp xz xr xm np th ((xs (6 * j + 1)).toInt) ((xs (6 * j + 2)).toInt) ((xs (6 * j + 3)).toInt) hM (zI_rng _) (zI_rng _) (zI_rng _) H.size) (cwV 3 hts gL_law_X6_multiply rfl rfl rfl (by decide +kernel) ⟨Nat.le_of_ble_eq_true rfl, Nat.le_of_ble_eq_true rfl⟩) (z_preV (va_recv hK hH.2.2.2.1 (ci := 5) (q0 := 0) rfl rfl) hH.2.2.2.1 hH.2.2.2.2.1 z_nilP (fun i j x y _ h => by simp at h) (hK.sub (tys' := [(cI, .int)]) [0] rfl)) rfl rfl hl.1 rfl (lv_room (Nat.le_of_ble_eq_true rfl)) dL_law_1217 ⟨by show 30 + 2 * j + 2 + 0 ≤ 601024; omega, by show 1500 + 70 * j + 70 + 0 ≤ 7293034; omega⟩) hH hS hA (cells' := 30 + 2 * j + 2) (slots' := 1500 + 70 * j + 70) rfl rfl (fun w H locs hm hH hS => ?_)
  obtain ⟨b1, xe1, xl1, xm1⟩ := w
  have hH : zHs D (zYK np) (zY cI cW cP cJ ad ar1 c1 np xp xz pg o1) (zM cI md xe1 xl1 xp xz xr xm1 np (kMult (zGm xe xl) xl ((xs (6 * j + 1)).toInt) ((xs (6 * j + 2)).toInt) ((xs (6 * j + 3)).toInt))) (fun q : Nat => s.heap.size ≤ q) H := hH
  obtain ⟨e1, hY1, hM1, hag1⟩ := z_inv hY hM hag hp hm (fun q => ⟨(v_mult hM hag q.1).1, (v_mult hM hag q.1).2.1, fun k h1 h2 => ⟨rfl, ((v_mult hM hag q.1).2.2 k h1 h2).2⟩⟩)
  have e1 : xl1 = c1 := e1
  subst e1
  have hY1 : zYI ad ar1 xl1 np xp xz pg := hY1
  have hM1 : zMI xe1 xl1 xp xz xr np := hM1
  have hag1 : zSame ar1 xe1 xl1 := hag1
  refine lv_istore (lv' := [(6, .int (zI b1)), (0, .ref b), (1, .ref (ad (4, 0))), (2, .ref (md 0)), (3, .ref (ad (18, 0))), (4, .int (zI (6 * (j : Int)))), (5, .int (zI k1))]) hx hb dL_law_1220 hl (by decide) rfl (fun ls hl => ?_)
  have hl := lv_sub hl [1, 2, 3, 4, 5, 6, 0] rfl
  have hl : lv_has ls 7 [(0, .ref b), (1, .ref (ad (4, 0))), (2, .ref (md 0)), (3, .ref (ad (18, 0))), (4, .int (zI (6 * (j : Int)))), (5, .int (zI k1)), (6, .int (zI b1))] := hl
  refine lv_aload_n hx hb dL_law_1222 rfl (lv_at hl 2 rfl) ?_
  have hRc := hH.2.2.2.1.sub (ws' := [(md 0, .inr (5, [.ref (md 1), .ref (md 2), .ref (md 3), .ref (md 4), .ref (md 5), .int (zI np), .ref (md 6), .int (zI (kMult (zGm xe xl) xl ((xs (6 * j + 1)).toInt) ((xs (6 * j + 2)).toInt) ((xs (6 * j + 3)).toInt)))]))]) [0] rfl
  refine zl_ro (va_runV (As := []) (rest := []) CF (c_X6_thrown l D (md 0) (md 1) (md 2) (md 3) (md 4) (md 5) (md 6) np (kMult (zGm xe xl) xl ((xs (6 * j + 1)).toInt) ((xs (6 * j + 2)).toInt) ((xs (6 * j + 3)).toInt)) H.size) (cwV 0 hts gL_law_X6_thrown rfl rfl rfl (by decide +kernel) ⟨Nat.le_of_ble_eq_true rfl, Nat.le_of_ble_eq_true rfl⟩) (z_preV (va_recv hK hH.2.2.2.1 (ci := 5) (q0 := 0) rfl rfl) z_nilP (z_nilD (A := (fun q : Nat => s.heap.size ≤ q))) hRc z_noX (hK.sub (tys' := []) [] rfl)) rfl rfl hl.1 rfl (lv_room (Nat.le_of_ble_eq_true rfl)) dL_law_1223 ⟨by show 30 + 2 * j + 2 + 0 ≤ 601024; omega, by show 1500 + 70 * j + 70 + 0 ≤ 7293034; omega⟩) hH hS hA (cells' := 30 + 2 * j + 2) (slots' := 1500 + 70 * j + 70) rfl rfl (fun H locs hH hS => ?_)
  refine lv_iload hx hb dL_law_1226 (lv_at hl 5 rfl) ?_
  refine lv_icmp_eq (tgt := 1233) hx hb dL_law_1228 (by decide) (fun _ => ?_) (fun q => absurd (congrArg zI hk1.symm) q)
  refine lv_iload hx hb dL_law_1233 (lv_at hl 5 rfl) ?_
  refine z_if_ne (tgt := 1250) hx hb dL_law_1235 (by decide) (by omega) (fun c_0 => ?_) (fun c_0 => ?_)
  · refine lv_goto (tgt := 1253) hx hb dL_law_1250 (by decide) ?_
    exact kk _ _ _ ⟨ad, ar1, md, xe1, xl1, xp, xz, xr, xm1, np, kMult (zGm xe xl) xl ((xs (6 * j + 1)).toInt) ((xs (6 * j + 2)).toInt) ((xs (6 * j + 3)).toInt), pg, o1, hY1, hM1, hag1, hH, hS, lv_sub hl [0, 1, 2, 3, 4] rfl⟩
  · have hk0 := hk1.symm.trans c_0
    have ho : o1 0 = zL (ndI (zLn (zGm xe xl) xl ((xs (6 * j + 1)).toInt) ((xs (6 * j + 2)).toInt)) (xl ((xs (6 * j + 1)).toInt) + xl ((xs (6 * j + 2)).toInt))) := (hp.2.1 hk0).1
    have hvr : -2147483648 ≤ ndI (zLn (zGm xe xl) xl ((xs (6 * j + 1)).toInt) ((xs (6 * j + 2)).toInt)) (xl ((xs (6 * j + 1)).toInt) + xl ((xs (6 * j + 2)).toInt)) ∧ ndI (zLn (zGm xe xl) xl ((xs (6 * j + 1)).toInt) ((xs (6 * j + 2)).toInt)) (xl ((xs (6 * j + 1)).toInt) + xl ((xs (6 * j + 2)).toInt)) ≤ 2147483647 := (hp.2.1 hk0).2
    have hbv : b1 = ndI (zLn (zGm xe xl) xl ((xs (6 * j + 1)).toInt) ((xs (6 * j + 2)).toInt)) (xl ((xs (6 * j + 1)).toInt) + xl ((xs (6 * j + 2)).toInt)) := (hm.1 hk0).trans (rfl)
    refine lv_aload_n hx hb dL_law_1238 rfl (lv_at hl 3 rfl) ?_
    refine z_iconst hx hb dL_law_1239 ?_
    have hPo := zf_sub hH.1 [(18, 0)] (List.forall_mem_cons.mpr ⟨zKf 18 rfl rfl, fun _ h => absurd h List.not_mem_nil⟩) (wc := [(ad (18, 0), .inl (cJ, 1, .inr (.inl o1)))]) rfl
    refine va_lald (f := o1) hx hb hK hPo 0 3 rfl rfl (z_in (i := 0) (n := 1) ⟨Int.le_refl _, by decide⟩ (by decide)) dL_law_1240 ?_
    rw [show (zI 0).toNatClampNeg = 0 from by decide, ho]
    refine lv_iload hx hb dL_law_1241 (lv_at hl 6 rfl) ?_
    refine z_eqI (b := ndI (zLn (zGm xe xl) xl ((xs (6 * j + 1)).toInt) ((xs (6 * j + 2)).toInt)) (xl ((xs (6 * j + 1)).toInt) + xl ((xs (6 * j + 2)).toInt))) hbv ?_
    refine z_i2l hx hb dL_law_1243 hvr ?_
    refine z_lcmp hx hb dL_law_1244 (by omega) (by omega) ?_
    refine z_ifC_eq (tgt := 1250) hx hb dL_law_1245 (by decide) (fun _ => ?_) (fun q => absurd rfl q)
    refine lv_goto (tgt := 1253) hx hb dL_law_1250 (by decide) ?_
    exact kk _ _ _ ⟨ad, ar1, md, xe1, xl1, xp, xz, xr, xm1, np, kMult (zGm xe xl) xl ((xs (6 * j + 1)).toInt) ((xs (6 * j + 2)).toInt) ((xs (6 * j + 3)).toInt), pg, o1, hY1, hM1, hag1, hH, hS, lv_sub hl [0, 1, 2, 3, 4] rfl⟩

set_option maxHeartbeats 4000000 in
set_option maxRecDepth 100000 in
theorem L_case_plan {p : Program} {l : Launch} {e : Env} {s : State} {m : MethodId} {below : List Frame} {meth : Method} {c : Code} {b L : Nat} {xs : Nat → Int32} {D : va_G} {cI cW cP cJ : ClassId} {Q : State → Prop} (hC : zLX p l s m meth c b L xs D cI cW cP cJ) (j : Nat) (hj : 6 * j + 6 ≤ L) (H : Heap) (locs : List Loc) (ls : Array Slot) (hI : zLI s b D cI cW cP cJ (6 * (j : Int)) H locs ls) (kk : ∀ (H : Heap) (locs : List Loc) (ls : Array Slot), zLI s b D cI cW cP cJ (6 * (j : Int)) H locs ls → W p l e room_1 s m #[Value.ref b] below meth c H locs (30 + 2 * j + 2) (1500 + 70 * j + 70) Q (F0 m 1253 ls [])) : W p l e room_1 s m #[Value.ref b] below meth c H locs (30 + 2 * j) (1500 + 70 * j) Q (F0 m 436 ls []) := by
  obtain ⟨hx, hb, hml, hown, hts, hX, hbl, hL, hl9, hXT, hK⟩ := hC
  obtain ⟨ad, ar, md, xe, xl, xp, xz, xr, xm, np, th, pg, o, hY, hM, hag, hH, hS, hl⟩ := hI
  have hA : ∀ q : Nat, s.heap.size ≤ q → (fun q : Nat => s.heap.size ≤ q) q := fun _ h => h
  have hbA : ¬ (fun q : Nat => s.heap.size ≤ q) b := Nat.not_le.mpr hbl
  have CF : CallFix p m c code 7 s #[Value.ref b] wsL_law RL := ⟨hx, hb, hml, hown, hts⟩
  refine lv_aload_n hx hb dL_law_436 rfl (lv_at hl 1 rfl) ?_
  refine lv_aload_n hx hb dL_law_437 rfl (lv_at hl 0 rfl) ?_
  refine lv_iload hx hb dL_law_438 (lv_at hl 4 rfl) ?_
  refine z_iconst hx hb dL_law_440 ?_
  refine z_iadd hx hb dL_law_441 ?_
  refine z_sld (b := b) hx hb hX hbl hbA hS (6 * j + 1) (by omega) (by omega) hL dL_law_442 ?_
  refine lv_aload_n hx hb dL_law_443 rfl (lv_at hl 0 rfl) ?_
  refine lv_iload hx hb dL_law_444 (lv_at hl 4 rfl) ?_
  refine z_iconst hx hb dL_law_446 ?_
  refine z_iadd hx hb dL_law_447 ?_
  refine z_sld (b := b) hx hb hX hbl hbA hS (6 * j + 2) (by omega) (by omega) hL dL_law_448 ?_
  refine lv_aload_n hx hb dL_law_449 rfl (lv_at hl 3 rfl) ?_
  refine zl_call (vx_runSW (hh := [(0, 10, 13, 15), (0, 10, 17, 17)]) (As := [.ref (ad (4, 0)), .int (zI ((xs (6 * j + 1)).toInt)), .int (zI ((xs (6 * j + 2)).toInt)), .ref (ad (18, 0))]) (rest := []) CF (W_plan l hl9 D cI cW cP cJ ad ar xl np xp xz pg o ((xs (6 * j + 1)).toInt) ((xs (6 * j + 2)).toInt) hY (zI_rng _) (zI_rng _) (fun q : Nat => s.heap.size ≤ q) H.size) (vx_cwSW 4 hts gL_law_L_plan rfl rfl rfl (by decide +kernel) ⟨Nat.le_of_ble_eq_true rfl, Nat.le_of_ble_eq_true rfl⟩) (zl_preW hH hK hXT hS hA) rfl rfl hl.1 rfl (lv_room (Nat.le_of_ble_eq_true rfl)) dL_law_450 ⟨by show 30 + 2 * j + 2 ≤ 601024; omega, by show 1500 + 70 * j + 70 ≤ 7293034; omega⟩) hH hS hA (cells' := 30 + 2 * j + 2) (slots' := 1500 + 70 * j + 70) rfl rfl (fun u H locs hp hH hS => ?_)
  obtain ⟨k1, o1, ad1, ar1, np1, pp1, pn1, pg1⟩ := u
  have hk1 : k1 = kPlan np ((xs (6 * j + 1)).toInt) ((xs (6 * j + 2)).toInt) := hp.1
  have hkr : 0 ≤ kPlan np ((xs (6 * j + 1)).toInt) ((xs (6 * j + 2)).toInt) ∧ kPlan np ((xs (6 * j + 1)).toInt) ((xs (6 * j + 2)).toInt) ≤ 3 := kPlan_r
  have hH : zHs D (zYK np1) (zY cI cW cP cJ ad1 ar1 xl np1 pp1 pn1 pg1 o1) (zM cI md xe xl xp xz xr xm np th) (fun q : Nat => s.heap.size ≤ q) H := hH
  refine lv_istore (lv' := [(5, .int (zI k1)), (0, .ref b), (1, .ref (ad (4, 0))), (2, .ref (md 0)), (3, .ref (ad (18, 0))), (4, .int (zI (6 * (j : Int))))]) hx hb dL_law_453 hl (by decide) rfl (fun ls hl => ?_)
  have hl := lv_sub hl [1, 2, 3, 4, 5, 0] rfl
  have hl : lv_has ls 7 [(0, .ref b), (1, .ref (ad (4, 0))), (2, .ref (md 0)), (3, .ref (ad (18, 0))), (4, .int (zI (6 * (j : Int)))), (5, .int (zI k1))] := hl
  refine lv_aload_n hx hb dL_law_455 rfl (lv_at hl 2 rfl) ?_
  refine lv_aload_n hx hb dL_law_456 rfl (lv_at hl 0 rfl) ?_
  refine lv_iload hx hb dL_law_457 (lv_at hl 4 rfl) ?_
  refine z_iconst hx hb dL_law_459 ?_
  refine z_iadd hx hb dL_law_460 ?_
  refine z_sld (b := b) hx hb hX hbl hbA hS (6 * j + 1) (by omega) (by omega) hL dL_law_461 ?_
  refine lv_aload_n hx hb dL_law_462 rfl (lv_at hl 0 rfl) ?_
  refine lv_iload hx hb dL_law_463 (lv_at hl 4 rfl) ?_
  refine z_iconst hx hb dL_law_465 ?_
  refine z_iadd hx hb dL_law_466 ?_
  refine z_sld (b := b) hx hb hX hbl hbA hS (6 * j + 2) (by omega) (by omega) hL dL_law_467 ?_
  refine zl_mcall (va_runV (As := [.int (zI ((xs (6 * j + 1)).toInt)), .int (zI ((xs (6 * j + 2)).toInt))]) (rest := []) CF (M_plan l D cI md xe xl xp xz xr xm np th ((xs (6 * j + 1)).toInt) ((xs (6 * j + 2)).toInt) hM (zI_rng _) (zI_rng _) H.size) (cwV 2 hts gL_law_X6_plan rfl rfl rfl (by decide +kernel) ⟨Nat.le_of_ble_eq_true rfl, Nat.le_of_ble_eq_true rfl⟩) (z_preV (va_recv hK hH.2.2.2.1 (ci := 5) (q0 := 0) rfl rfl) hH.2.2.2.1 hH.2.2.2.2.1 z_nilP (fun i j x y _ h => by simp at h) (hK.sub (tys' := [(cI, .int)]) [0] rfl)) rfl rfl hl.1 rfl (lv_room (Nat.le_of_ble_eq_true rfl)) dL_law_468 ⟨by show 30 + 2 * j + 2 + 0 ≤ 601024; omega, by show 1500 + 70 * j + 70 + 0 ≤ 7293034; omega⟩) hH hS hA (cells' := 30 + 2 * j + 2) (slots' := 1500 + 70 * j + 70) rfl rfl (fun w H locs hm hH hS => ?_)
  obtain ⟨b1, xp1, xz1, xr1, np2⟩ := w
  have hH : zHs D (zYK np1) (zY cI cW cP cJ ad1 ar1 xl np1 pp1 pn1 pg1 o1) (zM cI md xe xl xp1 xz1 xr1 xm np2 (kPlan np ((xs (6 * j + 1)).toInt) ((xs (6 * j + 2)).toInt))) (fun q : Nat => s.heap.size ≤ q) H := hH
  refine lv_istore (lv' := [(6, .int (zI b1)), (0, .ref b), (1, .ref (ad (4, 0))), (2, .ref (md 0)), (3, .ref (ad (18, 0))), (4, .int (zI (6 * (j : Int)))), (5, .int (zI k1))]) hx hb dL_law_471 hl (by decide) rfl (fun ls hl => ?_)
  have hl := lv_sub hl [1, 2, 3, 4, 5, 6, 0] rfl
  have hl : lv_has ls 7 [(0, .ref b), (1, .ref (ad (4, 0))), (2, .ref (md 0)), (3, .ref (ad (18, 0))), (4, .int (zI (6 * (j : Int)))), (5, .int (zI k1)), (6, .int (zI b1))] := hl
  refine lv_aload_n hx hb dL_law_473 rfl (lv_at hl 2 rfl) ?_
  have hRc := hH.2.2.2.1.sub (ws' := [(md 0, .inr (5, [.ref (md 1), .ref (md 2), .ref (md 3), .ref (md 4), .ref (md 5), .int (zI np2), .ref (md 6), .int (zI (kPlan np ((xs (6 * j + 1)).toInt) ((xs (6 * j + 2)).toInt)))]))]) [0] rfl
  refine zl_ro (va_runV (As := []) (rest := []) CF (c_X6_thrown l D (md 0) (md 1) (md 2) (md 3) (md 4) (md 5) (md 6) np2 (kPlan np ((xs (6 * j + 1)).toInt) ((xs (6 * j + 2)).toInt)) H.size) (cwV 0 hts gL_law_X6_thrown rfl rfl rfl (by decide +kernel) ⟨Nat.le_of_ble_eq_true rfl, Nat.le_of_ble_eq_true rfl⟩) (z_preV (va_recv hK hH.2.2.2.1 (ci := 5) (q0 := 0) rfl rfl) z_nilP (z_nilD (A := (fun q : Nat => s.heap.size ≤ q))) hRc z_noX (hK.sub (tys' := []) [] rfl)) rfl rfl hl.1 rfl (lv_room (Nat.le_of_ble_eq_true rfl)) dL_law_474 ⟨by show 30 + 2 * j + 2 + 0 ≤ 601024; omega, by show 1500 + 70 * j + 70 + 0 ≤ 7293034; omega⟩) hH hS hA (cells' := 30 + 2 * j + 2) (slots' := 1500 + 70 * j + 70) rfl rfl (fun H locs hH hS => ?_)
  refine lv_iload hx hb dL_law_477 (lv_at hl 5 rfl) ?_
  refine lv_icmp_eq (tgt := 484) hx hb dL_law_479 (by decide) (fun _ => ?_) (fun q => absurd (congrArg zI hk1.symm) q)
  refine lv_iload hx hb dL_law_484 (lv_at hl 5 rfl) ?_
  refine z_if_ne (tgt := 501) hx hb dL_law_486 (by decide) (by omega) (fun c_0 => ?_) (fun c_0 => ?_)
  · refine lv_goto (tgt := 1253) hx hb dL_law_501 (by decide) ?_
    have hk0 : kPlan np ((xs (6 * j + 1)).toInt) ((xs (6 * j + 2)).toInt) ≠ 0 := fun q => c_0 (hk1.trans q)
    have e3 := hp.2.1 hk0
    have e4 := hm.1 hk0
    have hH9 := hH
    have hS9 := hS
    have hl99 := hl
    simp only [Prod.mk.injEq] at e3 e4
    obtain ⟨rfl, rfl, rfl, rfl, rfl, rfl⟩ := e3
    obtain ⟨rfl, rfl, rfl, rfl⟩ := e4
    exact kk _ _ _ ⟨_, _, md, xe, xl, _, _, _, xm, _, _, _, o1, hY, hM, hag, hH9, hS9, lv_sub hl99 [0, 1, 2, 3, 4] rfl⟩
  · have hk0 := hk1.symm.trans c_0
    have h1 := hp.2.2 hk0
    obtain ⟨hoz, h3, w3, pw3, hpw3, e3⟩ := h1
    have hH9 := hH
    have hS9 := hS
    have hl99 := hl
    obtain ⟨hb3, e4⟩ := hm.2 hk0
    have hvr : -2147483648 ≤ np ∧ np ≤ 2147483647 := by have := hY.1; omega
    have hbv : b1 = np := hb3
    obtain ⟨hpn3, h83⟩ := kPlan_0 hk0 hY.1
    obtain ⟨hY1, hM1, hag1⟩ := z_invP (h := h3) (w := w3) hY hM hag hpn3 h83 hpw3
    simp only [Prod.mk.injEq] at e3 e4
    obtain ⟨rfl, rfl, rfl, rfl, rfl, rfl⟩ := e3
    obtain ⟨rfl, rfl, rfl, rfl⟩ := e4
    have ho : o1 0 = zL np := hoz
    have hH := hH9
    have hS := hS9
    have hl := hl99
    refine lv_aload_n hx hb dL_law_489 rfl (lv_at hl 3 rfl) ?_
    refine z_iconst hx hb dL_law_490 ?_
    have hPo := zf_sub hH.1 [(18, 0)] (List.forall_mem_cons.mpr ⟨zKf 18 rfl rfl, fun _ h => absurd h List.not_mem_nil⟩) (wc := [(ad (18, 0), .inl (cJ, 1, .inr (.inl o1)))]) (congrArg (fun x => [x]) (zY_plan18 ad np h3 w3))
    refine va_lald (f := o1) hx hb hK hPo 0 3 rfl rfl (z_in (i := 0) (n := 1) ⟨Int.le_refl _, by decide⟩ (by decide)) dL_law_491 ?_
    rw [show (zI 0).toNatClampNeg = 0 from by decide, ho]
    refine lv_iload hx hb dL_law_492 (lv_at hl 6 rfl) ?_
    refine z_eqI (b := np) hbv ?_
    refine z_i2l hx hb dL_law_494 hvr ?_
    refine z_lcmp hx hb dL_law_495 (by omega) (by omega) ?_
    refine z_ifC_eq (tgt := 501) hx hb dL_law_496 (by decide) (fun _ => ?_) (fun q => absurd rfl q)
    refine lv_goto (tgt := 1253) hx hb dL_law_501 (by decide) ?_
    exact kk _ _ _ ⟨_, _, md, xe, xl, _, _, _, xm, _, _, _, o1, hY1, hM1, hag1, hH, hS, by rw [zAD_o (by decide) (by decide), zAD_o (by decide) (by decide)]; exact lv_sub hl [0, 1, 2, 3, 4] rfl⟩

end LC
