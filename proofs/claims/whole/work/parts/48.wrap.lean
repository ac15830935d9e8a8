section WR
set_option maxHeartbeats 4000000 in
set_option maxRecDepth 100000 in
theorem w_append_e1 (l : Launch) (hl9 : l.stackTraces = false) (D : va_G) (cI cW cP cJ : ClassId) (ad : zk → Nat) (ar : zk → Int → Int) (c : Int → Int) (np : Int) (pp pn : Int → Int) (pg : Int → Option Nat) (o : Nat → Int64) (a : Int) (x : Int) (hYI : zYI ad ar c np pp pn pg) (ha_a : -2147483648 ≤ a ∧ a ≤ 2147483647) (ha_x : -2147483648 ≤ x ∧ x ≤ 2147483647) (hba : ¬ (0 ≤ a ∧ a < 4)) : zWC l yL_append wsL_append D [(cI, .int), (cW, .object RX3), (cP, .object RX2), (cJ, .long)] (zYK np) (zY cI cW cP cJ ad ar c np pp pn pg o) [.ref (ad (4, 0)), .int (zI a), .int (zI x), .ref (ad (18, 0))] (S := Int × (Nat → Int64) × (Int → Int) × (zk → Int → Int)) (zWp 1 (c a + 1) True c ar a (c a + 1) (zU (zG ar c a) (c a) x)) (fun u => some (.int (zI u.1))) (fun _ => zYK np) (fun u => zY cI cW cP cJ ad u.2.2.2 u.2.2.1 np pp pn pg u.2.1) := by
  obtain ⟨hnp, hcr, hgr, hpl⟩ := hYI
  refine z_startW (cc := cL_append) (maxL := 5) (ret := some .int) (hh := [(0, 10, 13, 13), (0, 10, 17, 15), (0, 10, 21, 17)]) (own := RL) (by decide) rfl rfl (Nat.le_of_ble_eq_true rfl) [(0, .ref (ad (4, 0))), (1, .int (zI a)), (2, .int (zI x)), (3, .ref (ad (18, 0)))] rfl ?_
  intro pp_ ee s mm below meth cc A0 H ls hX hA0 htab hx hb hr hml hts hown hlocks hK hF hI hKA hS hA hl
  have CF : CallFix pp_ mm cc cL_append 5 s ([.ref (ad (4, 0)), .int (zI a), .int (zI x), .ref (ad (18, 0))] : List Value).toArray wsL_append RL := ⟨hx, hb, hml, hown, hts⟩
  refine lv_aload_n hx hb dL_append_0 rfl (lv_at hl 3 rfl) ?_
  refine z_iconst hx hb dL_append_1 ?_
  refine lv_aload_n hx hb dL_append_2 rfl (lv_at hl 0 rfl) ?_
  refine lv_iload_n hx hb dL_append_3 rfl (lv_at hl 1 rfl) ?_
  refine lv_iload_n hx hb dL_append_4 rfl (lv_at hl 2 rfl) ?_
  have hRc := zf_sub hF [(4, 0)] (List.forall_mem_cons.mpr ⟨zKf 4 rfl rfl, (fun _ h => absurd h List.not_mem_nil)⟩) (wc := [((ad (4, 0)), .inr (4, [.ref (ad (5, 0)), .ref (ad (6, 0)), .int (zI np), .ref (ad (7, 0)), .ref (ad (8, 0)), .ref (ad (9, 0)), .ref (ad (10, 0))]))]) rfl
  refine zw_catch (E := "java/lang/IndexOutOfBoundsException") (name := "java/lang/IndexOutOfBoundsException") (own := RL) (vx_runV (As := [.int (zI a), .int (zI x)]) (rest := [.int (zI 0), .ref (ad (18, 0))]) CF (x_X5_append_1 l hl9 D cI cW cP (ad (4, 0)) (ad (5, 0)) (ad (6, 0)) np (ad (7, 0)) (ad (8, 0)) (ad (9, 0)) (ad (10, 0)) a x (by first | omega | assumption) (by first | omega | assumption) (by first | omega | assumption) A0 H.size) (cwV 2 hts gL_append_X5_append rfl rfl rfl (by decide +kernel) ⟨Nat.le_of_ble_eq_true rfl, Nat.le_of_ble_eq_true rfl⟩) (zw_preTV (va_recv hK hRc (ci := 4) (q0 := 0) rfl rfl) hX hA0 hA hS hRc (hK.sub (tys' := [(cI, .int), (cW, .object RX3), (cP, .object RX2)]) [0, 1, 2] rfl)) rfl rfl hl.1 rfl (lv_room (Nat.le_of_ble_eq_true rfl)) dL_append_5 ⟨Nat.le_of_ble_eq_true rfl, Nat.le_of_ble_eq_true rfl⟩) hF hS hA hown [] ⟨0, 10, 13, 13⟩ [⟨0, 10, 17, 15⟩, ⟨0, 10, 21, 17⟩] (htab.trans rfl) (fun _ h => absurd h List.not_mem_nil) rfl (by decide) (hts (.classLink RL 13 "java/lang/IndexOutOfBoundsException") (by decide +kernel)) (z_cast (hts (.initialized "java/lang/IndexOutOfBoundsException") (by decide +kernel))) (fun q H locs hF hS => ?_)
  refine lv_astore (lv' := [(4, .ref q), (0, .ref (ad (4, 0))), (1, .int (zI a)), (2, .int (zI x)), (3, .ref (ad (18, 0)))]) hx hb dL_append_13 hl (by decide) rfl (fun ls hl => ?_)
  have hl := lv_sub hl [1, 2, 3, 4, 0] rfl
  have hl : lv_has ls 5 [(0, .ref (ad (4, 0))), (1, .int (zI a)), (2, .int (zI x)), (3, .ref (ad (18, 0))), (4, .ref q)] := hl
  refine z_iconst hx hb dL_append_15 ?_
  refine W.widen (k := 2) (n := 70) (Nat.le_of_ble_eq_true rfl) (Nat.le_of_ble_eq_true rfl) ?_
  exact zw_iret hx hb hr hlocks (1, o, c, ar) rfl (zWp_err (by decide)) hF hI hKA hS dL_append_16

set_option maxHeartbeats 4000000 in
set_option maxRecDepth 100000 in
theorem w_append_e2 (l : Launch) (hl9 : l.stackTraces = false) (D : va_G) (cI cW cP cJ : ClassId) (ad : zk → Nat) (ar : zk → Int → Int) (c : Int → Int) (np : Int) (pp pn : Int → Int) (pg : Int → Option Nat) (o : Nat → Int64) (a : Int) (x : Int) (hYI : zYI ad ar c np pp pn pg) (ha_x : -2147483648 ≤ x ∧ x ≤ 2147483647) (hra : 0 ≤ a ∧ a < 4) (hv : ¬ (-9999 ≤ x ∧ x ≤ 9999)) : zWC l yL_append wsL_append D [(cI, .int), (cW, .object RX3), (cP, .object RX2), (cJ, .long)] (zYK np) (zY cI cW cP cJ ad ar c np pp pn pg o) [.ref (ad (4, 0)), .int (zI a), .int (zI x), .ref (ad (18, 0))] (S := Int × (Nat → Int64) × (Int → Int) × (zk → Int → Int)) (zWp 2 (c a + 1) True c ar a (c a + 1) (zU (zG ar c a) (c a) x)) (fun u => some (.int (zI u.1))) (fun _ => zYK np) (fun u => zY cI cW cP cJ ad u.2.2.2 u.2.2.1 np pp pn pg u.2.1) := by
  obtain ⟨hnp, hcr, hgr, hpl⟩ := hYI
  have hca_ := hcr a hra
  refine z_startW (cc := cL_append) (maxL := 5) (ret := some .int) (hh := [(0, 10, 13, 13), (0, 10, 17, 15), (0, 10, 21, 17)]) (own := RL) (by decide) rfl rfl (Nat.le_of_ble_eq_true rfl) [(0, .ref (ad (4, 0))), (1, .int (zI a)), (2, .int (zI x)), (3, .ref (ad (18, 0)))] rfl ?_
  intro pp_ ee s mm below meth cc A0 H ls hX hA0 htab hx hb hr hml hts hown hlocks hK hF hI hKA hS hA hl
  have CF : CallFix pp_ mm cc cL_append 5 s ([.ref (ad (4, 0)), .int (zI a), .int (zI x), .ref (ad (18, 0))] : List Value).toArray wsL_append RL := ⟨hx, hb, hml, hown, hts⟩
  refine lv_aload_n hx hb dL_append_0 rfl (lv_at hl 3 rfl) ?_
  refine z_iconst hx hb dL_append_1 ?_
  refine lv_aload_n hx hb dL_append_2 rfl (lv_at hl 0 rfl) ?_
  refine lv_iload_n hx hb dL_append_3 rfl (lv_at hl 1 rfl) ?_
  refine lv_iload_n hx hb dL_append_4 rfl (lv_at hl 2 rfl) ?_
  have hRc := zf_sub hF [(4, 0), (5, 0), (0, a)] (List.forall_mem_cons.mpr ⟨zKf 4 rfl rfl, (List.forall_mem_cons.mpr ⟨zKf 5 rfl rfl, (List.forall_mem_cons.mpr ⟨zK0 hra, (fun _ h => absurd h List.not_mem_nil)⟩)⟩)⟩) (wc := [((ad (4, 0)), .inr (4, [.ref (ad (5, 0)), .ref (ad (6, 0)), .int (zI np), .ref (ad (7, 0)), .ref (ad (8, 0)), .ref (ad (9, 0)), .ref (ad (10, 0))])), ((ad (5, 0)), .inl (cW, 4, .inr (.inr (.inr (.inr (fun k : Nat => (zRg ad) (k : Int))))))), ((ad (0, a)), .inr (2, [.ref (ad (1, a)), .int (zI (c a))]))]) rfl
  refine zw_catch (E := "java/lang/IllegalArgumentException") (name := "java/lang/IllegalArgumentException") (own := RL) (vx_runV (As := [.int (zI a), .int (zI x)]) (rest := [.int (zI 0), .ref (ad (18, 0))]) CF (x_X5_append_2 l hl9 D cI cW cP (ad (4, 0)) (ad (5, 0)) (ad (6, 0)) np (ad (7, 0)) (ad (8, 0)) (ad (9, 0)) (ad (10, 0)) (zRg ad) a x (ad (0, a)) (ad (1, a)) (c a) (by first | omega | assumption) (by exact zRg_at hra) (by first | omega | assumption) (by first | omega | assumption) A0 H.size) (cwV 2 hts gL_append_X5_append rfl rfl rfl (by decide +kernel) ⟨Nat.le_of_ble_eq_true rfl, Nat.le_of_ble_eq_true rfl⟩) (zw_preTV (va_recv hK hRc (ci := 4) (q0 := 0) rfl rfl) hX hA0 hA hS hRc (hK.sub (tys' := [(cI, .int), (cW, .object RX3), (cP, .object RX2)]) [0, 1, 2] rfl)) rfl rfl hl.1 rfl (lv_room (Nat.le_of_ble_eq_true rfl)) dL_append_5 ⟨Nat.le_of_ble_eq_true rfl, Nat.le_of_ble_eq_true rfl⟩) hF hS hA hown [⟨0, 10, 13, 13⟩] ⟨0, 10, 17, 15⟩ [⟨0, 10, 21, 17⟩] (htab.trans rfl) (List.forall_mem_cons.mpr ⟨Or.inr ⟨by decide, _, hts (.classLink RL 13 "java/lang/IndexOutOfBoundsException") (by decide +kernel), hX.2.2.2.1⟩, (fun _ h => absurd h List.not_mem_nil)⟩) rfl (by decide) (hts (.classLink RL 15 "java/lang/IllegalArgumentException") (by decide +kernel)) (z_cast (hts (.initialized "java/lang/IllegalArgumentException") (by decide +kernel))) (fun q H locs hF hS => ?_)
  refine lv_astore (lv' := [(4, .ref q), (0, .ref (ad (4, 0))), (1, .int (zI a)), (2, .int (zI x)), (3, .ref (ad (18, 0)))]) hx hb dL_append_17 hl (by decide) rfl (fun ls hl => ?_)
  have hl := lv_sub hl [1, 2, 3, 4, 0] rfl
  have hl : lv_has ls 5 [(0, .ref (ad (4, 0))), (1, .int (zI a)), (2, .int (zI x)), (3, .ref (ad (18, 0))), (4, .ref q)] := hl
  refine z_iconst hx hb dL_append_19 ?_
  refine W.widen (k := 2) (n := 70) (Nat.le_of_ble_eq_true rfl) (Nat.le_of_ble_eq_true rfl) ?_
  exact zw_iret hx hb hr hlocks (2, o, c, ar) rfl (zWp_err (by decide)) hF hI hKA hS dL_append_20

set_option maxHeartbeats 4000000 in
set_option maxRecDepth 100000 in
theorem w_append_e3 (l : Launch) (hl9 : l.stackTraces = false) (D : va_G) (cI cW cP cJ : ClassId) (ad : zk → Nat) (ar : zk → Int → Int) (c : Int → Int) (np : Int) (pp pn : Int → Int) (pg : Int → Option Nat) (o : Nat → Int64) (a : Int) (x : Int) (hYI : zYI ad ar c np pp pn pg) (hra : 0 ≤ a ∧ a < 4) (hv : -9999 ≤ x ∧ x ≤ 9999) (hf : c a = 64) : zWC l yL_append wsL_append D [(cI, .int), (cW, .object RX3), (cP, .object RX2), (cJ, .long)] (zYK np) (zY cI cW cP cJ ad ar c np pp pn pg o) [.ref (ad (4, 0)), .int (zI a), .int (zI x), .ref (ad (18, 0))] (S := Int × (Nat → Int64) × (Int → Int) × (zk → Int → Int)) (zWp 3 (c a + 1) True c ar a (c a + 1) (zU (zG ar c a) (c a) x)) (fun u => some (.int (zI u.1))) (fun _ => zYK np) (fun u => zY cI cW cP cJ ad u.2.2.2 u.2.2.1 np pp pn pg u.2.1) := by
  obtain ⟨hnp, hcr, hgr, hpl⟩ := hYI
  have hca_ := hcr a hra
  refine z_startW (cc := cL_append) (maxL := 5) (ret := some .int) (hh := [(0, 10, 13, 13), (0, 10, 17, 15), (0, 10, 21, 17)]) (own := RL) (by decide) rfl rfl (Nat.le_of_ble_eq_true rfl) [(0, .ref (ad (4, 0))), (1, .int (zI a)), (2, .int (zI x)), (3, .ref (ad (18, 0)))] rfl ?_
  intro pp_ ee s mm below meth cc A0 H ls hX hA0 htab hx hb hr hml hts hown hlocks hK hF hI hKA hS hA hl
  have CF : CallFix pp_ mm cc cL_append 5 s ([.ref (ad (4, 0)), .int (zI a), .int (zI x), .ref (ad (18, 0))] : List Value).toArray wsL_append RL := ⟨hx, hb, hml, hown, hts⟩
  refine lv_aload_n hx hb dL_append_0 rfl (lv_at hl 3 rfl) ?_
  refine z_iconst hx hb dL_append_1 ?_
  refine lv_aload_n hx hb dL_append_2 rfl (lv_at hl 0 rfl) ?_
  refine lv_iload_n hx hb dL_append_3 rfl (lv_at hl 1 rfl) ?_
  refine lv_iload_n hx hb dL_append_4 rfl (lv_at hl 2 rfl) ?_
  have hRc := zf_sub hF [(4, 0), (5, 0), (0, a)] (List.forall_mem_cons.mpr ⟨zKf 4 rfl rfl, (List.forall_mem_cons.mpr ⟨zKf 5 rfl rfl, (List.forall_mem_cons.mpr ⟨zK0 hra, (fun _ h => absurd h List.not_mem_nil)⟩)⟩)⟩) (wc := [((ad (4, 0)), .inr (4, [.ref (ad (5, 0)), .ref (ad (6, 0)), .int (zI np), .ref (ad (7, 0)), .ref (ad (8, 0)), .ref (ad (9, 0)), .ref (ad (10, 0))])), ((ad (5, 0)), .inl (cW, 4, .inr (.inr (.inr (.inr (fun k : Nat => (zRg ad) (k : Int))))))), ((ad (0, a)), .inr (2, [.ref (ad (1, a)), .int (zI (c a))]))]) rfl
  refine zw_catch (E := "java/lang/IllegalStateException") (name := "java/lang/IllegalStateException") (own := RL) (vx_runV (As := [.int (zI a), .int (zI x)]) (rest := [.int (zI 0), .ref (ad (18, 0))]) CF (x_X5_append_3 l hl9 D cI cW cP (ad (4, 0)) (ad (5, 0)) (ad (6, 0)) np (ad (7, 0)) (ad (8, 0)) (ad (9, 0)) (ad (10, 0)) (zRg ad) a x (ad (0, a)) (ad (1, a)) (c a) (by first | omega | assumption) (by exact zRg_at hra) (by first | omega | assumption) (by first | omega | assumption) A0 H.size) (cwV 2 hts gL_append_X5_append rfl rfl rfl (by decide +kernel) ⟨Nat.le_of_ble_eq_true rfl, Nat.le_of_ble_eq_true rfl⟩) (zw_preTV (va_recv hK hRc (ci := 4) (q0 := 0) rfl rfl) hX hA0 hA hS hRc (hK.sub (tys' := [(cI, .int), (cW, .object RX3), (cP, .object RX2)]) [0, 1, 2] rfl)) rfl rfl hl.1 rfl (lv_room (Nat.le_of_ble_eq_true rfl)) dL_append_5 ⟨Nat.le_of_ble_eq_true rfl, Nat.le_of_ble_eq_true rfl⟩) hF hS hA hown [⟨0, 10, 13, 13⟩, ⟨0, 10, 17, 15⟩] ⟨0, 10, 21, 17⟩ [] (htab.trans rfl) (List.forall_mem_cons.mpr ⟨Or.inr ⟨by decide, _, hts (.classLink RL 13 "java/lang/IndexOutOfBoundsException") (by decide +kernel), hX.2.2.2.2.1⟩, (List.forall_mem_cons.mpr ⟨Or.inr ⟨by decide, _, hts (.classLink RL 15 "java/lang/IllegalArgumentException") (by decide +kernel), hX.2.2.2.2.2.1⟩, (fun _ h => absurd h List.not_mem_nil)⟩)⟩) rfl (by decide) (hts (.classLink RL 17 "java/lang/IllegalStateException") (by decide +kernel)) (z_cast (hts (.initialized "java/lang/IllegalStateException") (by decide +kernel))) (fun q H locs hF hS => ?_)
  refine lv_astore (lv' := [(4, .ref q), (0, .ref (ad (4, 0))), (1, .int (zI a)), (2, .int (zI x)), (3, .ref (ad (18, 0)))]) hx hb dL_append_21 hl (by decide) rfl (fun ls hl => ?_)
  have hl := lv_sub hl [1, 2, 3, 4, 0] rfl
  have hl : lv_has ls 5 [(0, .ref (ad (4, 0))), (1, .int (zI a)), (2, .int (zI x)), (3, .ref (ad (18, 0))), (4, .ref q)] := hl
  refine z_iconst hx hb dL_append_23 ?_
  refine W.widen (k := 2) (n := 70) (Nat.le_of_ble_eq_true rfl) (Nat.le_of_ble_eq_true rfl) ?_
  exact zw_iret hx hb hr hlocks (3, o, c, ar) rfl (zWp_err (by decide)) hF hI hKA hS dL_append_24

set_option maxHeartbeats 4000000 in
set_option maxRecDepth 100000 in
theorem w_append_ok (l : Launch) (hl9 : l.stackTraces = false) (D : va_G) (cI cW cP cJ : ClassId) (ad : zk → Nat) (ar : zk → Int → Int) (c : Int → Int) (np : Int) (pp pn : Int → Int) (pg : Int → Option Nat) (o : Nat → Int64) (a : Int) (x : Int) (hYI : zYI ad ar c np pp pn pg) (hra : 0 ≤ a ∧ a < 4) (hv : -9999 ≤ x ∧ x ≤ 9999) (hf : c a ≠ 64) : zWC l yL_append wsL_append D [(cI, .int), (cW, .object RX3), (cP, .object RX2), (cJ, .long)] (zYK np) (zY cI cW cP cJ ad ar c np pp pn pg o) [.ref (ad (4, 0)), .int (zI a), .int (zI x), .ref (ad (18, 0))] (S := Int × (Nat → Int64) × (Int → Int) × (zk → Int → Int)) (zWp 0 (c a + 1) True c ar a (c a + 1) (zU (zG ar c a) (c a) x)) (fun u => some (.int (zI u.1))) (fun _ => zYK np) (fun u => zY cI cW cP cJ ad u.2.2.2 u.2.2.1 np pp pn pg u.2.1) := by
  obtain ⟨hnp, hcr, hgr, hpl⟩ := hYI
  have hca_ := hcr a hra
  refine z_startW (cc := cL_append) (maxL := 5) (ret := some .int) (hh := [(0, 10, 13, 13), (0, 10, 17, 15), (0, 10, 21, 17)]) (own := RL) (by decide) rfl rfl (Nat.le_of_ble_eq_true rfl) [(0, .ref (ad (4, 0))), (1, .int (zI a)), (2, .int (zI x)), (3, .ref (ad (18, 0)))] rfl ?_
  intro pp_ ee s mm below meth cc A0 H ls hX hA0 htab hx hb hr hml hts hown hlocks hK hF hI hKA hS hA hl
  have CF : CallFix pp_ mm cc cL_append 5 s ([.ref (ad (4, 0)), .int (zI a), .int (zI x), .ref (ad (18, 0))] : List Value).toArray wsL_append RL := ⟨hx, hb, hml, hown, hts⟩
  refine lv_aload_n hx hb dL_append_0 rfl (lv_at hl 3 rfl) ?_
  refine z_iconst hx hb dL_append_1 ?_
  refine lv_aload_n hx hb dL_append_2 rfl (lv_at hl 0 rfl) ?_
  refine lv_iload_n hx hb dL_append_3 rfl (lv_at hl 1 rfl) ?_
  refine lv_iload_n hx hb dL_append_4 rfl (lv_at hl 2 rfl) ?_
  have hRc := zf_sub hF [(4, 0), (5, 0)] (List.forall_mem_cons.mpr ⟨zKf 4 rfl rfl, (List.forall_mem_cons.mpr ⟨zKf 5 rfl rfl, (fun _ h => absurd h List.not_mem_nil)⟩)⟩) (wc := [((ad (4, 0)), .inr (4, [.ref (ad (5, 0)), .ref (ad (6, 0)), .int (zI np), .ref (ad (7, 0)), .ref (ad (8, 0)), .ref (ad (9, 0)), .ref (ad (10, 0))])), ((ad (5, 0)), .inl (cW, 4, .inr (.inr (.inr (.inr (fun k : Nat => (zRg ad) (k : Int)))))))]) rfl
  have hPc := zf_sub hF [(0, a), (1, a)] (List.forall_mem_cons.mpr ⟨zK0 hra, (List.forall_mem_cons.mpr ⟨zK1 hra, (fun _ h => absurd h List.not_mem_nil)⟩)⟩) (wc := [((ad (0, a)), .inr (2, [.ref (ad (1, a)), .int (zI (c a))])), ((ad (1, a)), .inl (cI, 64, .inl (zA (ar (1, a)))))]) rfl
  have hDc := zf_subD hI hKA [(0, a), (1, a)] (List.forall_mem_cons.mpr ⟨zK0 hra, (List.forall_mem_cons.mpr ⟨zK1 hra, (fun _ h => absurd h List.not_mem_nil)⟩)⟩) (by simp) (wc := [((ad (0, a)), .inr (2, [.ref (ad (1, a)), .int (zI (c a))])), ((ad (1, a)), .inl (cI, 64, .inl (zA (ar (1, a)))))]) rfl
  have hXc := zf_dis hI [(0, a), (1, a)] [(4, 0), (5, 0)] (List.forall_mem_cons.mpr ⟨zK0 hra, (List.forall_mem_cons.mpr ⟨zK1 hra, (fun _ h => absurd h List.not_mem_nil)⟩)⟩) (List.forall_mem_cons.mpr ⟨zKf 4 rfl rfl, (List.forall_mem_cons.mpr ⟨zKf 5 rfl rfl, (fun _ h => absurd h List.not_mem_nil)⟩)⟩) (by simp) (wc := [((ad (0, a)), .inr (2, [.ref (ad (1, a)), .int (zI (c a))])), ((ad (1, a)), .inl (cI, 64, .inl (zA (ar (1, a)))))]) (rc := [((ad (4, 0)), .inr (4, [.ref (ad (5, 0)), .ref (ad (6, 0)), .int (zI np), .ref (ad (7, 0)), .ref (ad (8, 0)), .ref (ad (9, 0)), .ref (ad (10, 0))])), ((ad (5, 0)), .inl (cW, 4, .inr (.inr (.inr (.inr (fun k : Nat => (zRg ad) (k : Int)))))))]) rfl rfl
  refine zf_call (wc := [((ad (0, a)), .inr (2, [.ref (ad (1, a)), .int (zI (c a))])), ((ad (1, a)), .inl (cI, 64, .inl (zA (ar (1, a)))))]) (va_runV (As := [.int (zI a), .int (zI x)]) (rest := [.int (zI 0), .ref (ad (18, 0))]) CF (c_X5_append_ok l D cI cW cP (ad (4, 0)) (ad (5, 0)) (ad (6, 0)) np (ad (7, 0)) (ad (8, 0)) (ad (9, 0)) (ad (10, 0)) (zRg ad) a x (ad (0, a)) (ad (1, a)) (c a) (ar (1, a)) (by first | omega | assumption) (by exact zRg_at hra) (by first | omega | assumption) (by first | omega | assumption) H.size) (cwV 2 hts gL_append_X5_append rfl rfl rfl (by decide +kernel) ⟨Nat.le_of_ble_eq_true rfl, Nat.le_of_ble_eq_true rfl⟩) (z_preV (va_recv hK hRc (ci := 4) (q0 := 0) rfl rfl) hPc hDc hRc hXc (hK.sub (tys' := [(cI, .int), (cW, .object RX3), (cP, .object RX2)]) [0, 1, 2] rfl)) rfl rfl hl.1 rfl (lv_room (Nat.le_of_ble_eq_true rfl)) dL_append_5 ⟨Nat.le_of_ble_eq_true rfl, Nat.le_of_ble_eq_true rfl⟩) hF hI hKA hS hA [(0, a), (1, a)] [(0, a), (1, a)] (List.forall_mem_cons.mpr ⟨zK0 hra, (List.forall_mem_cons.mpr ⟨zK1 hra, (fun _ h => absurd h List.not_mem_nil)⟩)⟩) rfl (fun _ => zYK np) (fun (_ : Unit) => zY cI cW cP cJ ad (zUA ar (1, a) (zU (ar (1, a)) (c a) x)) (zU c a ((c a) + 1)) np pp pn pg o) (fun u hu => by
        show ([(ad (0, a), .inr (2, [.ref (ad (1, a)), .int (zI ((zU c a ((c a) + 1)) a))])), (ad (1, a), .inl (cI, 64, .inl (zA ((zUA ar (1, a) (zU (ar (1, a)) (c a) x)) (1, a)))))] : va_W) = _
        rw [show (zU c a ((c a) + 1)) a = (c a) + 1 from zU_s _ _ _, show (zUA ar (1, a) (zU (ar (1, a)) (c a) x)) (1, a) = zU (ar (1, a)) (c a) x from by simp [zUA]]) (fun u hu k hk => by
        by_cases hm : k ∈ [(0, a), (1, a)]
        · exact Or.inl hm
        · refine Or.inr ⟨hk, hm, ?_⟩
          simp only [List.mem_cons, List.not_mem_nil, or_false, not_or] at hm
          exact zY_ext (by simp [zUA, hm]) (fun h0 => zU_n _ _ (fun h1 => hm.1 (Prod.ext h0 h1)))) (cells' := 0) (slots' := 0) rfl rfl (fun u H locs hp_ hF hI hKA hS => ?_)
  have hp_ : True := hp_
  have hF : zFP D (zYK np) (zY cI cW cP cJ ad (zUA ar (1, a) (zU (ar (1, a)) (c a) x)) (zU c a ((c a) + 1)) np pp pn pg o) H := hF
  have hI : zIn (zYK np) (zY cI cW cP cJ ad (zUA ar (1, a) (zU (ar (1, a)) (c a) x)) (zU c a ((c a) + 1)) np pp pn pg o) := hI
  have hrg_ : -2147483648 ≤ (c a) + 1 ∧ (c a) + 1 ≤ 2147483647 := by omega
  refine z_i2l hx hb dL_append_8 hrg_ ?_
  refine zw_last hx hb hK hF hI hKA hS (ko := (18, 0)) (zKf 18 rfl rfl) (v := (c a) + 1) rfl 3 rfl dL_append_9 (zY cI cW cP cJ ad (zUA ar (1, a) (zU (ar (1, a)) (c a) x)) (zU c a ((c a) + 1)) np pp pn pg (vp_updL o 0 (zL ((c a) + 1)))) (fun k hk hne => zY_out hk hne) rfl (fun H locs hF hI hKA hS => ?_)
  refine lv_goto (tgt := 25) hx hb dL_append_10 (by decide) ?_
  refine z_iconst hx hb dL_append_25 ?_
  refine W.widen (k := 2) (n := 70) (Nat.le_of_ble_eq_true rfl) (Nat.le_of_ble_eq_true rfl) ?_
  have hv_e : (c a) + 1 = c a + 1 := by rfl
  rw [hv_e] at hrg_
  have hv_0 : (vp_updL o 0 (zL ((c a) + 1))) 0 = zL (c a + 1) := (show vp_updL o 0 (zL ((c a) + 1)) 0 = zL ((c a) + 1) from if_pos rfl).trans (congrArg zL hv_e)
  have hv_1 : ∀ k, 0 ≤ k → k < c a + 1 → (zUA ar (1, a) (zU (ar (1, a)) (c a) x)) (1, a) k = (zU (zG ar c a) (c a) x) k := by
    intro k h1 h2
    rw [show (zUA ar (1, a) (zU (ar (1, a)) (c a) x)) (1, a) = zU (ar (1, a)) (c a) x from by simp [zUA]]
    unfold zU
    split
    · rfl
    · exact (rowAt_in (by omega)).symm
  exact zw_iret hx hb hr hlocks (0, vp_updL o 0 (zL ((c a) + 1)), zU c a ((c a) + 1), zUA ar (1, a) (zU (ar (1, a)) (c a) x)) rfl (zWp_mu hv_0 hrg_ rfl hv_1 (fun r hr_ => by simp [zUA, hr_]) (fun j => by simp [zUA])) hF hI hKA hS dL_append_26

set_option maxHeartbeats 4000000 in
set_option maxRecDepth 100000 in
theorem w_clear_e1 (l : Launch) (hl9 : l.stackTraces = false) (D : va_G) (cI cW cP cJ : ClassId) (ad : zk → Nat) (ar : zk → Int → Int) (c : Int → Int) (np : Int) (pp pn : Int → Int) (pg : Int → Option Nat) (o : Nat → Int64) (a : Int) (hYI : zYI ad ar c np pp pn pg) (ha_a : -2147483648 ≤ a ∧ a ≤ 2147483647) (hba : ¬ (0 ≤ a ∧ a < 4)) : zWC l yL_clear wsL_clear D [(cI, .int), (cW, .object RX3), (cP, .object RX2), (cJ, .long)] (zYK np) (zY cI cW cP cJ ad ar c np pp pn pg o) [.ref (ad (4, 0)), .int (zI a), .ref (ad (18, 0))] (S := Int × (Nat → Int64) × (Int → Int) × (zk → Int → Int)) (zWp 1 (c a) True c ar a 0 (fun _ => 0)) (fun u => some (.int (zI u.1))) (fun _ => zYK np) (fun u => zY cI cW cP cJ ad u.2.2.2 u.2.2.1 np pp pn pg u.2.1) := by
  obtain ⟨hnp, hcr, hgr, hpl⟩ := hYI
  refine z_startW (cc := cL_clear) (maxL := 4) (ret := some .int) (hh := [(0, 9, 12, 13)]) (own := RL) (by decide) rfl rfl (Nat.le_of_ble_eq_true rfl) [(0, .ref (ad (4, 0))), (1, .int (zI a)), (2, .ref (ad (18, 0)))] rfl ?_
  intro pp_ ee s mm below meth cc A0 H ls hX hA0 htab hx hb hr hml hts hown hlocks hK hF hI hKA hS hA hl
  have CF : CallFix pp_ mm cc cL_clear 4 s ([.ref (ad (4, 0)), .int (zI a), .ref (ad (18, 0))] : List Value).toArray wsL_clear RL := ⟨hx, hb, hml, hown, hts⟩
  refine lv_aload_n hx hb dL_clear_0 rfl (lv_at hl 2 rfl) ?_
  refine z_iconst hx hb dL_clear_1 ?_
  refine lv_aload_n hx hb dL_clear_2 rfl (lv_at hl 0 rfl) ?_
  refine lv_iload_n hx hb dL_clear_3 rfl (lv_at hl 1 rfl) ?_
  have hRc := zf_sub hF [(4, 0)] (List.forall_mem_cons.mpr ⟨zKf 4 rfl rfl, (fun _ h => absurd h List.not_mem_nil)⟩) (wc := [((ad (4, 0)), .inr (4, [.ref (ad (5, 0)), .ref (ad (6, 0)), .int (zI np), .ref (ad (7, 0)), .ref (ad (8, 0)), .ref (ad (9, 0)), .ref (ad (10, 0))]))]) rfl
  refine zw_catch (E := "java/lang/IndexOutOfBoundsException") (name := "java/lang/IndexOutOfBoundsException") (own := RL) (vx_runV (As := [.int (zI a)]) (rest := [.int (zI 0), .ref (ad (18, 0))]) CF (x_X5_clear_1 l hl9 D cI cW cP (ad (4, 0)) (ad (5, 0)) (ad (6, 0)) np (ad (7, 0)) (ad (8, 0)) (ad (9, 0)) (ad (10, 0)) a (by first | omega | assumption) (by first | omega | assumption) A0 H.size) (cwV 1 hts gL_clear_X5_clear rfl rfl rfl (by decide +kernel) ⟨Nat.le_of_ble_eq_true rfl, Nat.le_of_ble_eq_true rfl⟩) (zw_preTV (va_recv hK hRc (ci := 4) (q0 := 0) rfl rfl) hX hA0 hA hS hRc (hK.sub (tys' := [(cI, .int), (cW, .object RX3), (cP, .object RX2)]) [0, 1, 2] rfl)) rfl rfl hl.1 rfl (lv_room (Nat.le_of_ble_eq_true rfl)) dL_clear_4 ⟨Nat.le_of_ble_eq_true rfl, Nat.le_of_ble_eq_true rfl⟩) hF hS hA hown [] ⟨0, 9, 12, 13⟩ [] (htab.trans rfl) (fun _ h => absurd h List.not_mem_nil) rfl (by decide) (hts (.classLink RL 13 "java/lang/IndexOutOfBoundsException") (by decide +kernel)) (z_cast (hts (.initialized "java/lang/IndexOutOfBoundsException") (by decide +kernel))) (fun q H locs hF hS => ?_)
  refine lv_astore_n (lv' := [(3, .ref q), (0, .ref (ad (4, 0))), (1, .int (zI a)), (2, .ref (ad (18, 0)))]) hx hb dL_clear_12 rfl hl (by decide) rfl (fun ls hl => ?_)
  have hl := lv_sub hl [1, 2, 3, 0] rfl
  have hl : lv_has ls 4 [(0, .ref (ad (4, 0))), (1, .int (zI a)), (2, .ref (ad (18, 0))), (3, .ref q)] := hl
  refine z_iconst hx hb dL_clear_13 ?_
  refine W.widen (k := 2) (n := 70) (Nat.le_of_ble_eq_true rfl) (Nat.le_of_ble_eq_true rfl) ?_
  exact zw_iret hx hb hr hlocks (1, o, c, ar) rfl (zWp_err (by decide)) hF hI hKA hS dL_clear_14

set_option maxHeartbeats 4000000 in
set_option maxRecDepth 100000 in
theorem w_clear_ok (l : Launch) (hl9 : l.stackTraces = false) (D : va_G) (cI cW cP cJ : ClassId) (ad : zk → Nat) (ar : zk → Int → Int) (c : Int → Int) (np : Int) (pp pn : Int → Int) (pg : Int → Option Nat) (o : Nat → Int64) (a : Int) (hYI : zYI ad ar c np pp pn pg) (hra : 0 ≤ a ∧ a < 4) : zWC l yL_clear wsL_clear D [(cI, .int), (cW, .object RX3), (cP, .object RX2), (cJ, .long)] (zYK np) (zY cI cW cP cJ ad ar c np pp pn pg o) [.ref (ad (4, 0)), .int (zI a), .ref (ad (18, 0))] (S := Int × (Nat → Int64) × (Int → Int) × (zk → Int → Int)) (zWp 0 (c a) True c ar a 0 (fun _ => 0)) (fun u => some (.int (zI u.1))) (fun _ => zYK np) (fun u => zY cI cW cP cJ ad u.2.2.2 u.2.2.1 np pp pn pg u.2.1) := by
  obtain ⟨hnp, hcr, hgr, hpl⟩ := hYI
  have hca_ := hcr a hra
  refine z_startW (cc := cL_clear) (maxL := 4) (ret := some .int) (hh := [(0, 9, 12, 13)]) (own := RL) (by decide) rfl rfl (Nat.le_of_ble_eq_true rfl) [(0, .ref (ad (4, 0))), (1, .int (zI a)), (2, .ref (ad (18, 0)))] rfl ?_
  intro pp_ ee s mm below meth cc A0 H ls hX hA0 htab hx hb hr hml hts hown hlocks hK hF hI hKA hS hA hl
  have CF : CallFix pp_ mm cc cL_clear 4 s ([.ref (ad (4, 0)), .int (zI a), .ref (ad (18, 0))] : List Value).toArray wsL_clear RL := ⟨hx, hb, hml, hown, hts⟩
  refine lv_aload_n hx hb dL_clear_0 rfl (lv_at hl 2 rfl) ?_
  refine z_iconst hx hb dL_clear_1 ?_
  refine lv_aload_n hx hb dL_clear_2 rfl (lv_at hl 0 rfl) ?_
  refine lv_iload_n hx hb dL_clear_3 rfl (lv_at hl 1 rfl) ?_
  have hRc := zf_sub hF [(4, 0), (5, 0)] (List.forall_mem_cons.mpr ⟨zKf 4 rfl rfl, (List.forall_mem_cons.mpr ⟨zKf 5 rfl rfl, (fun _ h => absurd h List.not_mem_nil)⟩)⟩) (wc := [((ad (4, 0)), .inr (4, [.ref (ad (5, 0)), .ref (ad (6, 0)), .int (zI np), .ref (ad (7, 0)), .ref (ad (8, 0)), .ref (ad (9, 0)), .ref (ad (10, 0))])), ((ad (5, 0)), .inl (cW, 4, .inr (.inr (.inr (.inr (fun k : Nat => (zRg ad) (k : Int)))))))]) rfl
  have hPc := zf_sub hF [(0, a)] (List.forall_mem_cons.mpr ⟨zK0 hra, (fun _ h => absurd h List.not_mem_nil)⟩) (wc := [((ad (0, a)), .inr (2, [.ref (ad (1, a)), .int (zI (c a))]))]) rfl
  have hDc := zf_subD hI hKA [(0, a)] (List.forall_mem_cons.mpr ⟨zK0 hra, (fun _ h => absurd h List.not_mem_nil)⟩) (by simp) (wc := [((ad (0, a)), .inr (2, [.ref (ad (1, a)), .int (zI (c a))]))]) rfl
  have hXc := zf_dis hI [(0, a)] [(4, 0), (5, 0)] (List.forall_mem_cons.mpr ⟨zK0 hra, (fun _ h => absurd h List.not_mem_nil)⟩) (List.forall_mem_cons.mpr ⟨zKf 4 rfl rfl, (List.forall_mem_cons.mpr ⟨zKf 5 rfl rfl, (fun _ h => absurd h List.not_mem_nil)⟩)⟩) (by simp) (wc := [((ad (0, a)), .inr (2, [.ref (ad (1, a)), .int (zI (c a))]))]) (rc := [((ad (4, 0)), .inr (4, [.ref (ad (5, 0)), .ref (ad (6, 0)), .int (zI np), .ref (ad (7, 0)), .ref (ad (8, 0)), .ref (ad (9, 0)), .ref (ad (10, 0))])), ((ad (5, 0)), .inl (cW, 4, .inr (.inr (.inr (.inr (fun k : Nat => (zRg ad) (k : Int)))))))]) rfl rfl
  refine zf_call (wc := [((ad (0, a)), .inr (2, [.ref (ad (1, a)), .int (zI (c a))]))]) (va_runV (As := [.int (zI a)]) (rest := [.int (zI 0), .ref (ad (18, 0))]) CF (c_X5_clear_ok l D cI cW cP (ad (4, 0)) (ad (5, 0)) (ad (6, 0)) np (ad (7, 0)) (ad (8, 0)) (ad (9, 0)) (ad (10, 0)) (zRg ad) a (ad (0, a)) (ad (1, a)) (c a) (by first | omega | assumption) (by exact zRg_at hra) H.size) (cwV 1 hts gL_clear_X5_clear rfl rfl rfl (by decide +kernel) ⟨Nat.le_of_ble_eq_true rfl, Nat.le_of_ble_eq_true rfl⟩) (z_preV (va_recv hK hRc (ci := 4) (q0 := 0) rfl rfl) hPc hDc hRc hXc (hK.sub (tys' := [(cI, .int), (cW, .object RX3), (cP, .object RX2)]) [0, 1, 2] rfl)) rfl rfl hl.1 rfl (lv_room (Nat.le_of_ble_eq_true rfl)) dL_clear_4 ⟨Nat.le_of_ble_eq_true rfl, Nat.le_of_ble_eq_true rfl⟩) hF hI hKA hS hA [(0, a)] [(0, a)] (List.forall_mem_cons.mpr ⟨zK0 hra, (fun _ h => absurd h List.not_mem_nil)⟩) rfl (fun _ => zYK np) (fun (_ : Unit) => zY cI cW cP cJ ad ar (zU c a 0) np pp pn pg o) (fun u hu => by
        show ([(ad (0, a), .inr (2, [.ref (ad (1, a)), .int (zI ((zU c a 0) a))]))] : va_W) = _
        rw [show (zU c a 0) a = 0 from zU_s _ _ _]) (fun u hu k hk => by
        by_cases hm : k ∈ [(0, a)]
        · exact Or.inl hm
        · refine Or.inr ⟨hk, hm, ?_⟩
          simp only [List.mem_cons, List.not_mem_nil, or_false, not_or] at hm
          exact zY_ext (rfl) (fun h0 => zU_n _ _ (fun h1 => hm (Prod.ext h0 h1)))) (cells' := 0) (slots' := 0) rfl rfl (fun u H locs hp_ hF hI hKA hS => ?_)
  have hp_ : True := hp_
  have hF : zFP D (zYK np) (zY cI cW cP cJ ad ar (zU c a 0) np pp pn pg o) H := hF
  have hI : zIn (zYK np) (zY cI cW cP cJ ad ar (zU c a 0) np pp pn pg o) := hI
  have hrg_ : -2147483648 ≤ (c a) ∧ (c a) ≤ 2147483647 := by omega
  refine z_i2l hx hb dL_clear_7 hrg_ ?_
  refine zw_last hx hb hK hF hI hKA hS (ko := (18, 0)) (zKf 18 rfl rfl) (v := (c a)) rfl 3 rfl dL_clear_8 (zY cI cW cP cJ ad ar (zU c a 0) np pp pn pg (vp_updL o 0 (zL (c a)))) (fun k hk hne => zY_out hk hne) rfl (fun H locs hF hI hKA hS => ?_)
  refine lv_goto (tgt := 15) hx hb dL_clear_9 (by decide) ?_
  refine z_iconst hx hb dL_clear_15 ?_
  refine W.widen (k := 2) (n := 70) (Nat.le_of_ble_eq_true rfl) (Nat.le_of_ble_eq_true rfl) ?_
  have hv_e : (c a) = c a := by rfl
  rw [hv_e] at hrg_
  have hv_0 : (vp_updL o 0 (zL (c a))) 0 = zL (c a) := (show vp_updL o 0 (zL (c a)) 0 = zL (c a) from if_pos rfl).trans (congrArg zL hv_e)
  have hv_1 : ∀ k, 0 ≤ k → k < 0 → ar (1, a) k = (fun _ => 0) k := by
    intro k h1 h2
    exact absurd h2 (by omega)
  exact zw_iret hx hb hr hlocks (0, vp_updL o 0 (zL (c a)), zU c a 0, ar) rfl (zWp_mu hv_0 hrg_ rfl hv_1 (fun r hr_ => rfl) (fun j => rfl)) hF hI hKA hS dL_clear_16

set_option maxHeartbeats 4000000 in
set_option maxRecDepth 100000 in
theorem w_copy_e1a (l : Launch) (hl9 : l.stackTraces = false) (D : va_G) (cI cW cP cJ : ClassId) (ad : zk → Nat) (ar : zk → Int → Int) (c : Int → Int) (np : Int) (pp pn : Int → Int) (pg : Int → Option Nat) (o : Nat → Int64) (a : Int) (t : Int) (hYI : zYI ad ar c np pp pn pg) (ha_a : -2147483648 ≤ a ∧ a ≤ 2147483647) (ha_t : -2147483648 ≤ t ∧ t ≤ 2147483647) (hba : ¬ (0 ≤ a ∧ a < 4)) : zWC l yL_copy wsL_copy D [(cI, .int), (cW, .object RX3), (cP, .object RX2), (cJ, .long)] (zYK np) (zY cI cW cP cJ ad ar c np pp pn pg o) [.ref (ad (4, 0)), .int (zI a), .int (zI t), .ref (ad (18, 0))] (S := Int × (Nat → Int64) × (Int → Int) × (zk → Int → Int)) (zWp 1 (c a) True c ar t (c a) (zG ar c a)) (fun u => some (.int (zI u.1))) (fun _ => zYK np) (fun u => zY cI cW cP cJ ad u.2.2.2 u.2.2.1 np pp pn pg u.2.1) := by
  obtain ⟨hnp, hcr, hgr, hpl⟩ := hYI
  refine z_startW (cc := cL_copy) (maxL := 5) (ret := some .int) (hh := [(0, 10, 13, 13)]) (own := RL) (by decide) rfl rfl (Nat.le_of_ble_eq_true rfl) [(0, .ref (ad (4, 0))), (1, .int (zI a)), (2, .int (zI t)), (3, .ref (ad (18, 0)))] rfl ?_
  intro pp_ ee s mm below meth cc A0 H ls hX hA0 htab hx hb hr hml hts hown hlocks hK hF hI hKA hS hA hl
  have CF : CallFix pp_ mm cc cL_copy 5 s ([.ref (ad (4, 0)), .int (zI a), .int (zI t), .ref (ad (18, 0))] : List Value).toArray wsL_copy RL := ⟨hx, hb, hml, hown, hts⟩
  refine lv_aload_n hx hb dL_copy_0 rfl (lv_at hl 3 rfl) ?_
  refine z_iconst hx hb dL_copy_1 ?_
  refine lv_aload_n hx hb dL_copy_2 rfl (lv_at hl 0 rfl) ?_
  refine lv_iload_n hx hb dL_copy_3 rfl (lv_at hl 1 rfl) ?_
  refine lv_iload_n hx hb dL_copy_4 rfl (lv_at hl 2 rfl) ?_
  have hRc := zf_sub hF [(4, 0)] (List.forall_mem_cons.mpr ⟨zKf 4 rfl rfl, (fun _ h => absurd h List.not_mem_nil)⟩) (wc := [((ad (4, 0)), .inr (4, [.ref (ad (5, 0)), .ref (ad (6, 0)), .int (zI np), .ref (ad (7, 0)), .ref (ad (8, 0)), .ref (ad (9, 0)), .ref (ad (10, 0))]))]) rfl
  refine zw_catch (E := "java/lang/IndexOutOfBoundsException") (name := "java/lang/IndexOutOfBoundsException") (own := RL) (vx_runV (As := [.int (zI a), .int (zI t)]) (rest := [.int (zI 0), .ref (ad (18, 0))]) CF (x_X5_copy_1a l hl9 D cI cW cP (ad (4, 0)) (ad (5, 0)) (ad (6, 0)) np (ad (7, 0)) (ad (8, 0)) (ad (9, 0)) (ad (10, 0)) a t (by first | omega | assumption) (by first | omega | assumption) A0 H.size) (cwV 2 hts gL_copy_X5_copy rfl rfl rfl (by decide +kernel) ⟨Nat.le_of_ble_eq_true rfl, Nat.le_of_ble_eq_true rfl⟩) (zw_preTV (va_recv hK hRc (ci := 4) (q0 := 0) rfl rfl) hX hA0 hA hS hRc (hK.sub (tys' := [(cI, .int), (cW, .object RX3), (cP, .object RX2)]) [0, 1, 2] rfl)) rfl rfl hl.1 rfl (lv_room (Nat.le_of_ble_eq_true rfl)) dL_copy_5 ⟨Nat.le_of_ble_eq_true rfl, Nat.le_of_ble_eq_true rfl⟩) hF hS hA hown [] ⟨0, 10, 13, 13⟩ [] (htab.trans rfl) (fun _ h => absurd h List.not_mem_nil) rfl (by decide) (hts (.classLink RL 13 "java/lang/IndexOutOfBoundsException") (by decide +kernel)) (z_cast (hts (.initialized "java/lang/IndexOutOfBoundsException") (by decide +kernel))) (fun q H locs hF hS => ?_)
  refine lv_astore (lv' := [(4, .ref q), (0, .ref (ad (4, 0))), (1, .int (zI a)), (2, .int (zI t)), (3, .ref (ad (18, 0)))]) hx hb dL_copy_13 hl (by decide) rfl (fun ls hl => ?_)
  have hl := lv_sub hl [1, 2, 3, 4, 0] rfl
  have hl : lv_has ls 5 [(0, .ref (ad (4, 0))), (1, .int (zI a)), (2, .int (zI t)), (3, .ref (ad (18, 0))), (4, .ref q)] := hl
  refine z_iconst hx hb dL_copy_15 ?_
  refine W.widen (k := 2) (n := 70) (Nat.le_of_ble_eq_true rfl) (Nat.le_of_ble_eq_true rfl) ?_
  exact zw_iret hx hb hr hlocks (1, o, c, ar) rfl (zWp_err (by decide)) hF hI hKA hS dL_copy_16

set_option maxHeartbeats 4000000 in
set_option maxRecDepth 100000 in
theorem w_copy_e1b (l : Launch) (hl9 : l.stackTraces = false) (D : va_G) (cI cW cP cJ : ClassId) (ad : zk → Nat) (ar : zk → Int → Int) (c : Int → Int) (np : Int) (pp pn : Int → Int) (pg : Int → Option Nat) (o : Nat → Int64) (a : Int) (t : Int) (hYI : zYI ad ar c np pp pn pg) (ha_t : -2147483648 ≤ t ∧ t ≤ 2147483647) (hra : 0 ≤ a ∧ a < 4) (hbt : ¬ (0 ≤ t ∧ t < 4)) : zWC l yL_copy wsL_copy D [(cI, .int), (cW, .object RX3), (cP, .object RX2), (cJ, .long)] (zYK np) (zY cI cW cP cJ ad ar c np pp pn pg o) [.ref (ad (4, 0)), .int (zI a), .int (zI t), .ref (ad (18, 0))] (S := Int × (Nat → Int64) × (Int → Int) × (zk → Int → Int)) (zWp 1 (c a) True c ar t (c a) (zG ar c a)) (fun u => some (.int (zI u.1))) (fun _ => zYK np) (fun u => zY cI cW cP cJ ad u.2.2.2 u.2.2.1 np pp pn pg u.2.1) := by
  obtain ⟨hnp, hcr, hgr, hpl⟩ := hYI
  have hca_ := hcr a hra
  refine z_startW (cc := cL_copy) (maxL := 5) (ret := some .int) (hh := [(0, 10, 13, 13)]) (own := RL) (by decide) rfl rfl (Nat.le_of_ble_eq_true rfl) [(0, .ref (ad (4, 0))), (1, .int (zI a)), (2, .int (zI t)), (3, .ref (ad (18, 0)))] rfl ?_
  intro pp_ ee s mm below meth cc A0 H ls hX hA0 htab hx hb hr hml hts hown hlocks hK hF hI hKA hS hA hl
  have CF : CallFix pp_ mm cc cL_copy 5 s ([.ref (ad (4, 0)), .int (zI a), .int (zI t), .ref (ad (18, 0))] : List Value).toArray wsL_copy RL := ⟨hx, hb, hml, hown, hts⟩
  refine lv_aload_n hx hb dL_copy_0 rfl (lv_at hl 3 rfl) ?_
  refine z_iconst hx hb dL_copy_1 ?_
  refine lv_aload_n hx hb dL_copy_2 rfl (lv_at hl 0 rfl) ?_
  refine lv_iload_n hx hb dL_copy_3 rfl (lv_at hl 1 rfl) ?_
  refine lv_iload_n hx hb dL_copy_4 rfl (lv_at hl 2 rfl) ?_
  have hRc := zf_sub hF [(4, 0), (5, 0)] (List.forall_mem_cons.mpr ⟨zKf 4 rfl rfl, (List.forall_mem_cons.mpr ⟨zKf 5 rfl rfl, (fun _ h => absurd h List.not_mem_nil)⟩)⟩) (wc := [((ad (4, 0)), .inr (4, [.ref (ad (5, 0)), .ref (ad (6, 0)), .int (zI np), .ref (ad (7, 0)), .ref (ad (8, 0)), .ref (ad (9, 0)), .ref (ad (10, 0))])), ((ad (5, 0)), .inl (cW, 4, .inr (.inr (.inr (.inr (fun k : Nat => (zRg ad) (k : Int)))))))]) rfl
  refine zw_catch (E := "java/lang/IndexOutOfBoundsException") (name := "java/lang/IndexOutOfBoundsException") (own := RL) (vx_runV (As := [.int (zI a), .int (zI t)]) (rest := [.int (zI 0), .ref (ad (18, 0))]) CF (x_X5_copy_1b l hl9 D cI cW cP (ad (4, 0)) (ad (5, 0)) (ad (6, 0)) np (ad (7, 0)) (ad (8, 0)) (ad (9, 0)) (ad (10, 0)) (zRg ad) a t (ad (0, a)) (by first | omega | assumption) (by exact zRg_at hra) (by first | omega | assumption) (by first | omega | assumption) A0 H.size) (cwV 2 hts gL_copy_X5_copy rfl rfl rfl (by decide +kernel) ⟨Nat.le_of_ble_eq_true rfl, Nat.le_of_ble_eq_true rfl⟩) (zw_preTV (va_recv hK hRc (ci := 4) (q0 := 0) rfl rfl) hX hA0 hA hS hRc (hK.sub (tys' := [(cI, .int), (cW, .object RX3), (cP, .object RX2)]) [0, 1, 2] rfl)) rfl rfl hl.1 rfl (lv_room (Nat.le_of_ble_eq_true rfl)) dL_copy_5 ⟨Nat.le_of_ble_eq_true rfl, Nat.le_of_ble_eq_true rfl⟩) hF hS hA hown [] ⟨0, 10, 13, 13⟩ [] (htab.trans rfl) (fun _ h => absurd h List.not_mem_nil) rfl (by decide) (hts (.classLink RL 13 "java/lang/IndexOutOfBoundsException") (by decide +kernel)) (z_cast (hts (.initialized "java/lang/IndexOutOfBoundsException") (by decide +kernel))) (fun q H locs hF hS => ?_)
  refine lv_astore (lv' := [(4, .ref q), (0, .ref (ad (4, 0))), (1, .int (zI a)), (2, .int (zI t)), (3, .ref (ad (18, 0)))]) hx hb dL_copy_13 hl (by decide) rfl (fun ls hl => ?_)
  have hl := lv_sub hl [1, 2, 3, 4, 0] rfl
  have hl : lv_has ls 5 [(0, .ref (ad (4, 0))), (1, .int (zI a)), (2, .int (zI t)), (3, .ref (ad (18, 0))), (4, .ref q)] := hl
  refine z_iconst hx hb dL_copy_15 ?_
  refine W.widen (k := 2) (n := 70) (Nat.le_of_ble_eq_true rfl) (Nat.le_of_ble_eq_true rfl) ?_
  exact zw_iret hx hb hr hlocks (1, o, c, ar) rfl (zWp_err (by decide)) hF hI hKA hS dL_copy_16

set_option maxHeartbeats 4000000 in
set_option maxRecDepth 100000 in
theorem w_copy_D (l : Launch) (hl9 : l.stackTraces = false) (D : va_G) (cI cW cP cJ : ClassId) (ad : zk → Nat) (ar : zk → Int → Int) (c : Int → Int) (np : Int) (pp pn : Int → Int) (pg : Int → Option Nat) (o : Nat → Int64) (a : Int) (t : Int) (hYI : zYI ad ar c np pp pn pg) (hra : 0 ≤ a ∧ a < 4) (hrt : 0 ≤ t ∧ t < 4) (hne : ¬ t = a) : zWC l yL_copy wsL_copy D [(cI, .int), (cW, .object RX3), (cP, .object RX2), (cJ, .long)] (zYK np) (zY cI cW cP cJ ad ar c np pp pn pg o) [.ref (ad (4, 0)), .int (zI a), .int (zI t), .ref (ad (18, 0))] (S := Int × (Nat → Int64) × (Int → Int) × (zk → Int → Int)) (zWp 0 (c a) True c ar t (c a) (zG ar c a)) (fun u => some (.int (zI u.1))) (fun _ => zYK np) (fun u => zY cI cW cP cJ ad u.2.2.2 u.2.2.1 np pp pn pg u.2.1) := by
  obtain ⟨hnp, hcr, hgr, hpl⟩ := hYI
  have hca_ := hcr a hra
  have hct_ := hcr t hrt
  refine z_startW (cc := cL_copy) (maxL := 5) (ret := some .int) (hh := [(0, 10, 13, 13)]) (own := RL) (by decide) rfl rfl (Nat.le_of_ble_eq_true rfl) [(0, .ref (ad (4, 0))), (1, .int (zI a)), (2, .int (zI t)), (3, .ref (ad (18, 0)))] rfl ?_
  intro pp_ ee s mm below meth cc A0 H ls hX hA0 htab hx hb hr hml hts hown hlocks hK hF hI hKA hS hA hl
  have CF : CallFix pp_ mm cc cL_copy 5 s ([.ref (ad (4, 0)), .int (zI a), .int (zI t), .ref (ad (18, 0))] : List Value).toArray wsL_copy RL := ⟨hx, hb, hml, hown, hts⟩
  refine lv_aload_n hx hb dL_copy_0 rfl (lv_at hl 3 rfl) ?_
  refine z_iconst hx hb dL_copy_1 ?_
  refine lv_aload_n hx hb dL_copy_2 rfl (lv_at hl 0 rfl) ?_
  refine lv_iload_n hx hb dL_copy_3 rfl (lv_at hl 1 rfl) ?_
  refine lv_iload_n hx hb dL_copy_4 rfl (lv_at hl 2 rfl) ?_
  have hRc := zf_sub hF [(4, 0), (5, 0), (0, a), (1, a)] (List.forall_mem_cons.mpr ⟨zKf 4 rfl rfl, (List.forall_mem_cons.mpr ⟨zKf 5 rfl rfl, (List.forall_mem_cons.mpr ⟨zK0 hra, (List.forall_mem_cons.mpr ⟨zK1 hra, (fun _ h => absurd h List.not_mem_nil)⟩)⟩)⟩)⟩) (wc := [((ad (4, 0)), .inr (4, [.ref (ad (5, 0)), .ref (ad (6, 0)), .int (zI np), .ref (ad (7, 0)), .ref (ad (8, 0)), .ref (ad (9, 0)), .ref (ad (10, 0))])), ((ad (5, 0)), .inl (cW, 4, .inr (.inr (.inr (.inr (fun k : Nat => (zRg ad) (k : Int))))))), ((ad (0, a)), .inr (2, [.ref (ad (1, a)), .int (zI (c a))])), ((ad (1, a)), .inl (cI, 64, .inl (zA (ar (1, a)))))]) rfl
  have hPc := zf_sub hF [(0, t), (1, t)] (List.forall_mem_cons.mpr ⟨zK0 hrt, (List.forall_mem_cons.mpr ⟨zK1 hrt, (fun _ h => absurd h List.not_mem_nil)⟩)⟩) (wc := [((ad (0, t)), .inr (2, [.ref (ad (1, t)), .int (zI (c t))])), ((ad (1, t)), .inl (cI, 64, .inl (zA (ar (1, t)))))]) rfl
  have hDc := zf_subD hI hKA [(0, t), (1, t)] (List.forall_mem_cons.mpr ⟨zK0 hrt, (List.forall_mem_cons.mpr ⟨zK1 hrt, (fun _ h => absurd h List.not_mem_nil)⟩)⟩) (by simp) (wc := [((ad (0, t)), .inr (2, [.ref (ad (1, t)), .int (zI (c t))])), ((ad (1, t)), .inl (cI, 64, .inl (zA (ar (1, t)))))]) rfl
  have hXc := zf_dis hI [(0, t), (1, t)] [(4, 0), (5, 0), (0, a), (1, a)] (List.forall_mem_cons.mpr ⟨zK0 hrt, (List.forall_mem_cons.mpr ⟨zK1 hrt, (fun _ h => absurd h List.not_mem_nil)⟩)⟩) (List.forall_mem_cons.mpr ⟨zKf 4 rfl rfl, (List.forall_mem_cons.mpr ⟨zKf 5 rfl rfl, (List.forall_mem_cons.mpr ⟨zK0 hra, (List.forall_mem_cons.mpr ⟨zK1 hra, (fun _ h => absurd h List.not_mem_nil)⟩)⟩)⟩)⟩) (by simp [show ¬ a = t from fun h => hne h.symm]) (wc := [((ad (0, t)), .inr (2, [.ref (ad (1, t)), .int (zI (c t))])), ((ad (1, t)), .inl (cI, 64, .inl (zA (ar (1, t)))))]) (rc := [((ad (4, 0)), .inr (4, [.ref (ad (5, 0)), .ref (ad (6, 0)), .int (zI np), .ref (ad (7, 0)), .ref (ad (8, 0)), .ref (ad (9, 0)), .ref (ad (10, 0))])), ((ad (5, 0)), .inl (cW, 4, .inr (.inr (.inr (.inr (fun k : Nat => (zRg ad) (k : Int))))))), ((ad (0, a)), .inr (2, [.ref (ad (1, a)), .int (zI (c a))])), ((ad (1, a)), .inl (cI, 64, .inl (zA (ar (1, a)))))]) rfl rfl
  refine zf_call (wc := [((ad (0, t)), .inr (2, [.ref (ad (1, t)), .int (zI (c t))])), ((ad (1, t)), .inl (cI, 64, .inl (zA (ar (1, t)))))]) (va_runV (As := [.int (zI a), .int (zI t)]) (rest := [.int (zI 0), .ref (ad (18, 0))]) CF (c_X5_copy_D l D cI cW cP (ad (4, 0)) (ad (5, 0)) (ad (6, 0)) np (ad (7, 0)) (ad (8, 0)) (ad (9, 0)) (ad (10, 0)) (zRg ad) a t (ad (0, a)) (ad (1, a)) (c a) (ar (1, a)) (ad (0, t)) (ad (1, t)) (c t) (ar (1, t)) (by first | omega | assumption) (by exact zRg_at hra) (by first | omega | assumption) (by exact zRg_at hrt) (by first | omega | assumption) H.size) (cwV 2 hts gL_copy_X5_copy rfl rfl rfl (by decide +kernel) ⟨Nat.le_of_ble_eq_true rfl, Nat.le_of_ble_eq_true rfl⟩) (z_preV (va_recv hK hRc (ci := 4) (q0 := 0) rfl rfl) hPc hDc hRc hXc (hK.sub (tys' := [(cI, .int), (cW, .object RX3), (cP, .object RX2)]) [0, 1, 2] rfl)) rfl rfl hl.1 rfl (lv_room (Nat.le_of_ble_eq_true rfl)) dL_copy_5 ⟨Nat.le_of_ble_eq_true rfl, Nat.le_of_ble_eq_true rfl⟩) hF hI hKA hS hA [(0, t), (1, t)] [(0, t), (1, t)] (List.forall_mem_cons.mpr ⟨zK0 hrt, (List.forall_mem_cons.mpr ⟨zK1 hrt, (fun _ h => absurd h List.not_mem_nil)⟩)⟩) rfl (fun _ => zYK np) (fun a2 => zY cI cW cP cJ ad (zUA ar (1, t) a2) (zU c t (c a)) np pp pn pg o) (fun a2 hu => by
        show ([(ad (0, t), .inr (2, [.ref (ad (1, t)), .int (zI ((zU c t (c a)) t))])), (ad (1, t), .inl (cI, 64, .inl (zA ((zUA ar (1, t) a2) (1, t)))))] : va_W) = _
        rw [show (zU c t (c a)) t = (c a) from zU_s _ _ _, show (zUA ar (1, t) a2) (1, t) = a2 from by simp [zUA]]) (fun a2 hu k hk => by
        by_cases hm : k ∈ [(0, t), (1, t)]
        · exact Or.inl hm
        · refine Or.inr ⟨hk, hm, ?_⟩
          simp only [List.mem_cons, List.not_mem_nil, or_false, not_or] at hm
          exact zY_ext (by simp [zUA, hm]) (fun h0 => zU_n _ _ (fun h1 => hm.1 (Prod.ext h0 h1)))) (cells' := 0) (slots' := 0) rfl rfl (fun a2 H locs hp_ hF hI hKA hS => ?_)
  have hp_ : ∀ k, 0 ≤ k → k < (c a) → a2 k = (ar (1, a)) k := hp_
  have hF : zFP D (zYK np) (zY cI cW cP cJ ad (zUA ar (1, t) a2) (zU c t (c a)) np pp pn pg o) H := hF
  have hI : zIn (zYK np) (zY cI cW cP cJ ad (zUA ar (1, t) a2) (zU c t (c a)) np pp pn pg o) := hI
  have hrg_ : -2147483648 ≤ (c a) ∧ (c a) ≤ 2147483647 := by omega
  refine z_i2l hx hb dL_copy_8 hrg_ ?_
  refine zw_last hx hb hK hF hI hKA hS (ko := (18, 0)) (zKf 18 rfl rfl) (v := (c a)) rfl 3 rfl dL_copy_9 (zY cI cW cP cJ ad (zUA ar (1, t) a2) (zU c t (c a)) np pp pn pg (vp_updL o 0 (zL (c a)))) (fun k hk hne => zY_out hk hne) rfl (fun H locs hF hI hKA hS => ?_)
  refine lv_goto (tgt := 17) hx hb dL_copy_10 (by decide) ?_
  refine z_iconst hx hb dL_copy_17 ?_
  refine W.widen (k := 2) (n := 70) (Nat.le_of_ble_eq_true rfl) (Nat.le_of_ble_eq_true rfl) ?_
  have hv_e : (c a) = c a := by rfl
  rw [hv_e] at hrg_
  have hv_0 : (vp_updL o 0 (zL (c a))) 0 = zL (c a) := (show vp_updL o 0 (zL (c a)) 0 = zL (c a) from if_pos rfl).trans (congrArg zL hv_e)
  have hv_1 : ∀ k, 0 ≤ k → k < c a → (zUA ar (1, t) a2) (1, t) k = (zG ar c a) k := by
    intro k h1 h2
    rw [show (zUA ar (1, t) a2) (1, t) = a2 from by simp [zUA], hp_ k h1 h2]
    exact (rowAt_in ⟨h1, h2⟩).symm
  exact zw_iret hx hb hr hlocks (0, vp_updL o 0 (zL (c a)), zU c t (c a), zUA ar (1, t) a2) rfl (zWp_mu hv_0 hrg_ rfl hv_1 (fun r hr_ => by simp [zUA, hr_]) (fun j => by simp [zUA])) hF hI hKA hS dL_copy_18

set_option maxHeartbeats 4000000 in
set_option maxRecDepth 100000 in
theorem w_copy_S (l : Launch) (hl9 : l.stackTraces = false) (D : va_G) (cI cW cP cJ : ClassId) (ad : zk → Nat) (ar : zk → Int → Int) (c : Int → Int) (np : Int) (pp pn : Int → Int) (pg : Int → Option Nat) (o : Nat → Int64) (a : Int) (t : Int) (hYI : zYI ad ar c np pp pn pg) (hra : 0 ≤ a ∧ a < 4) (hrt : 0 ≤ t ∧ t < 4) (hne : a = t) : zWC l yL_copy wsL_copy D [(cI, .int), (cW, .object RX3), (cP, .object RX2), (cJ, .long)] (zYK np) (zY cI cW cP cJ ad ar c np pp pn pg o) [.ref (ad (4, 0)), .int (zI a), .int (zI t), .ref (ad (18, 0))] (S := Int × (Nat → Int64) × (Int → Int) × (zk → Int → Int)) (zWp 0 (c a) True c ar t (c a) (zG ar c a)) (fun u => some (.int (zI u.1))) (fun _ => zYK np) (fun u => zY cI cW cP cJ ad u.2.2.2 u.2.2.1 np pp pn pg u.2.1) := by
  obtain ⟨hnp, hcr, hgr, hpl⟩ := hYI
  have hca_ := hcr a hra
  have hct_ := hcr t hrt
  subst hne
  refine z_startW (cc := cL_copy) (maxL := 5) (ret := some .int) (hh := [(0, 10, 13, 13)]) (own := RL) (by decide) rfl rfl (Nat.le_of_ble_eq_true rfl) [(0, .ref (ad (4, 0))), (1, .int (zI a)), (2, .int (zI a)), (3, .ref (ad (18, 0)))] rfl ?_
  intro pp_ ee s mm below meth cc A0 H ls hX hA0 htab hx hb hr hml hts hown hlocks hK hF hI hKA hS hA hl
  have CF : CallFix pp_ mm cc cL_copy 5 s ([.ref (ad (4, 0)), .int (zI a), .int (zI a), .ref (ad (18, 0))] : List Value).toArray wsL_copy RL := ⟨hx, hb, hml, hown, hts⟩
  refine lv_aload_n hx hb dL_copy_0 rfl (lv_at hl 3 rfl) ?_
  refine z_iconst hx hb dL_copy_1 ?_
  refine lv_aload_n hx hb dL_copy_2 rfl (lv_at hl 0 rfl) ?_
  refine lv_iload_n hx hb dL_copy_3 rfl (lv_at hl 1 rfl) ?_
  refine lv_iload_n hx hb dL_copy_4 rfl (lv_at hl 2 rfl) ?_
  have hRc := zf_sub hF [(4, 0), (5, 0)] (List.forall_mem_cons.mpr ⟨zKf 4 rfl rfl, (List.forall_mem_cons.mpr ⟨zKf 5 rfl rfl, (fun _ h => absurd h List.not_mem_nil)⟩)⟩) (wc := [((ad (4, 0)), .inr (4, [.ref (ad (5, 0)), .ref (ad (6, 0)), .int (zI np), .ref (ad (7, 0)), .ref (ad (8, 0)), .ref (ad (9, 0)), .ref (ad (10, 0))])), ((ad (5, 0)), .inl (cW, 4, .inr (.inr (.inr (.inr (fun k : Nat => (zRg ad) (k : Int)))))))]) rfl
  have hPc := zf_sub hF [(0, a), (1, a)] (List.forall_mem_cons.mpr ⟨zK0 hra, (List.forall_mem_cons.mpr ⟨zK1 hra, (fun _ h => absurd h List.not_mem_nil)⟩)⟩) (wc := [((ad (0, a)), .inr (2, [.ref (ad (1, a)), .int (zI (c a))])), ((ad (1, a)), .inl (cI, 64, .inl (zA (ar (1, a)))))]) rfl
  have hDc := zf_subD hI hKA [(0, a), (1, a)] (List.forall_mem_cons.mpr ⟨zK0 hra, (List.forall_mem_cons.mpr ⟨zK1 hra, (fun _ h => absurd h List.not_mem_nil)⟩)⟩) (by simp) (wc := [((ad (0, a)), .inr (2, [.ref (ad (1, a)), .int (zI (c a))])), ((ad (1, a)), .inl (cI, 64, .inl (zA (ar (1, a)))))]) rfl
  have hXc := zf_dis hI [(0, a), (1, a)] [(4, 0), (5, 0)] (List.forall_mem_cons.mpr ⟨zK0 hra, (List.forall_mem_cons.mpr ⟨zK1 hra, (fun _ h => absurd h List.not_mem_nil)⟩)⟩) (List.forall_mem_cons.mpr ⟨zKf 4 rfl rfl, (List.forall_mem_cons.mpr ⟨zKf 5 rfl rfl, (fun _ h => absurd h List.not_mem_nil)⟩)⟩) (by simp) (wc := [((ad (0, a)), .inr (2, [.ref (ad (1, a)), .int (zI (c a))])), ((ad (1, a)), .inl (cI, 64, .inl (zA (ar (1, a)))))]) (rc := [((ad (4, 0)), .inr (4, [.ref (ad (5, 0)), .ref (ad (6, 0)), .int (zI np), .ref (ad (7, 0)), .ref (ad (8, 0)), .ref (ad (9, 0)), .ref (ad (10, 0))])), ((ad (5, 0)), .inl (cW, 4, .inr (.inr (.inr (.inr (fun k : Nat => (zRg ad) (k : Int)))))))]) rfl rfl
  refine zf_call (wc := [((ad (0, a)), .inr (2, [.ref (ad (1, a)), .int (zI (c a))])), ((ad (1, a)), .inl (cI, 64, .inl (zA (ar (1, a)))))]) (va_runV (As := [.int (zI a), .int (zI a)]) (rest := [.int (zI 0), .ref (ad (18, 0))]) CF (c_X5_copy_S l D cI cW cP (ad (4, 0)) (ad (5, 0)) (ad (6, 0)) np (ad (7, 0)) (ad (8, 0)) (ad (9, 0)) (ad (10, 0)) (zRg ad) a a (ad (0, a)) (ad (1, a)) (c a) (ar (1, a)) (by first | omega | assumption) (by exact zRg_at hra) (by first | omega | assumption) (by exact zRg_at hrt) (by first | omega | assumption) H.size) (cwV 2 hts gL_copy_X5_copy rfl rfl rfl (by decide +kernel) ⟨Nat.le_of_ble_eq_true rfl, Nat.le_of_ble_eq_true rfl⟩) (z_preV (va_recv hK hRc (ci := 4) (q0 := 0) rfl rfl) hPc hDc hRc hXc (hK.sub (tys' := [(cI, .int), (cW, .object RX3), (cP, .object RX2)]) [0, 1, 2] rfl)) rfl rfl hl.1 rfl (lv_room (Nat.le_of_ble_eq_true rfl)) dL_copy_5 ⟨Nat.le_of_ble_eq_true rfl, Nat.le_of_ble_eq_true rfl⟩) hF hI hKA hS hA [(0, a), (1, a)] [(0, a), (1, a)] (List.forall_mem_cons.mpr ⟨zK0 hra, (List.forall_mem_cons.mpr ⟨zK1 hra, (fun _ h => absurd h List.not_mem_nil)⟩)⟩) rfl (fun _ => zYK np) (fun a2 => zY cI cW cP cJ ad (zUA ar (1, a) a2) (zU c a (c a)) np pp pn pg o) (fun a2 hu => by
        show ([(ad (0, a), .inr (2, [.ref (ad (1, a)), .int (zI ((zU c a (c a)) a))])), (ad (1, a), .inl (cI, 64, .inl (zA ((zUA ar (1, a) a2) (1, a)))))] : va_W) = _
        rw [show (zU c a (c a)) a = (c a) from zU_s _ _ _, show (zUA ar (1, a) a2) (1, a) = a2 from by simp [zUA]]) (fun a2 hu k hk => by
        by_cases hm : k ∈ [(0, a), (1, a)]
        · exact Or.inl hm
        · refine Or.inr ⟨hk, hm, ?_⟩
          simp only [List.mem_cons, List.not_mem_nil, or_false, not_or] at hm
          exact zY_ext (by simp [zUA, hm]) (fun h0 => zU_n _ _ (fun h1 => hm.1 (Prod.ext h0 h1)))) (cells' := 0) (slots' := 0) rfl rfl (fun a2 H locs hp_ hF hI hKA hS => ?_)
  have hp_ : ∀ k, 0 ≤ k → k < (c a) → a2 k = (ar (1, a)) k := hp_
  have hF : zFP D (zYK np) (zY cI cW cP cJ ad (zUA ar (1, a) a2) (zU c a (c a)) np pp pn pg o) H := hF
  have hI : zIn (zYK np) (zY cI cW cP cJ ad (zUA ar (1, a) a2) (zU c a (c a)) np pp pn pg o) := hI
  have hrg_ : -2147483648 ≤ (c a) ∧ (c a) ≤ 2147483647 := by omega
  refine z_i2l hx hb dL_copy_8 hrg_ ?_
  refine zw_last hx hb hK hF hI hKA hS (ko := (18, 0)) (zKf 18 rfl rfl) (v := (c a)) rfl 3 rfl dL_copy_9 (zY cI cW cP cJ ad (zUA ar (1, a) a2) (zU c a (c a)) np pp pn pg (vp_updL o 0 (zL (c a)))) (fun k hk hne => zY_out hk hne) rfl (fun H locs hF hI hKA hS => ?_)
  refine lv_goto (tgt := 17) hx hb dL_copy_10 (by decide) ?_
  refine z_iconst hx hb dL_copy_17 ?_
  refine W.widen (k := 2) (n := 70) (Nat.le_of_ble_eq_true rfl) (Nat.le_of_ble_eq_true rfl) ?_
  have hv_e : (c a) = c a := by rfl
  rw [hv_e] at hrg_
  have hv_0 : (vp_updL o 0 (zL (c a))) 0 = zL (c a) := (show vp_updL o 0 (zL (c a)) 0 = zL (c a) from if_pos rfl).trans (congrArg zL hv_e)
  have hv_1 : ∀ k, 0 ≤ k → k < c a → (zUA ar (1, a) a2) (1, a) k = (zG ar c a) k := by
    intro k h1 h2
    rw [show (zUA ar (1, a) a2) (1, a) = a2 from by simp [zUA], hp_ k h1 h2]
    exact (rowAt_in ⟨h1, h2⟩).symm
  exact zw_iret hx hb hr hlocks (0, vp_updL o 0 (zL (c a)), zU c a (c a), zUA ar (1, a) a2) rfl (zWp_mu hv_0 hrg_ rfl hv_1 (fun r hr_ => by simp [zUA, hr_]) (fun j => by simp [zUA])) hF hI hKA hS dL_copy_18

set_option maxHeartbeats 4000000 in
set_option maxRecDepth 100000 in
theorem w_length_e1 (l : Launch) (hl9 : l.stackTraces = false) (D : va_G) (cI cW cP cJ : ClassId) (ad : zk → Nat) (ar : zk → Int → Int) (c : Int → Int) (np : Int) (pp pn : Int → Int) (pg : Int → Option Nat) (o : Nat → Int64) (a : Int) (hYI : zYI ad ar c np pp pn pg) (ha_a : -2147483648 ≤ a ∧ a ≤ 2147483647) (hba : ¬ (0 ≤ a ∧ a < 4)) : zWC l yL_length wsL_length D [(cI, .int), (cW, .object RX3), (cP, .object RX2), (cJ, .long)] (zYK np) (zY cI cW cP cJ ad ar c np pp pn pg o) [.ref (ad (4, 0)), .int (zI a), .ref (ad (18, 0))] (S := Int × (Nat → Int64) × (Int → Int) × (zk → Int → Int)) (zWp 1 (c a) False c ar 0 0 (fun _ => 0)) (fun u => some (.int (zI u.1))) (fun _ => zYK np) (fun u => zY cI cW cP cJ ad u.2.2.2 u.2.2.1 np pp pn pg u.2.1) := by
  obtain ⟨hnp, hcr, hgr, hpl⟩ := hYI
  refine z_startW (cc := cL_length) (maxL := 4) (ret := some .int) (hh := [(0, 9, 12, 13)]) (own := RL) (by decide) rfl rfl (Nat.le_of_ble_eq_true rfl) [(0, .ref (ad (4, 0))), (1, .int (zI a)), (2, .ref (ad (18, 0)))] rfl ?_
  intro pp_ ee s mm below meth cc A0 H ls hX hA0 htab hx hb hr hml hts hown hlocks hK hF hI hKA hS hA hl
  have CF : CallFix pp_ mm cc cL_length 4 s ([.ref (ad (4, 0)), .int (zI a), .ref (ad (18, 0))] : List Value).toArray wsL_length RL := ⟨hx, hb, hml, hown, hts⟩
  refine lv_aload_n hx hb dL_length_0 rfl (lv_at hl 2 rfl) ?_
  refine z_iconst hx hb dL_length_1 ?_
  refine lv_aload_n hx hb dL_length_2 rfl (lv_at hl 0 rfl) ?_
  refine lv_iload_n hx hb dL_length_3 rfl (lv_at hl 1 rfl) ?_
  have hRc := zf_sub hF [(4, 0)] (List.forall_mem_cons.mpr ⟨zKf 4 rfl rfl, (fun _ h => absurd h List.not_mem_nil)⟩) (wc := [((ad (4, 0)), .inr (4, [.ref (ad (5, 0)), .ref (ad (6, 0)), .int (zI np), .ref (ad (7, 0)), .ref (ad (8, 0)), .ref (ad (9, 0)), .ref (ad (10, 0))]))]) rfl
  refine zw_catch (E := "java/lang/IndexOutOfBoundsException") (name := "java/lang/IndexOutOfBoundsException") (own := RL) (vx_runV (As := [.int (zI a)]) (rest := [.int (zI 0), .ref (ad (18, 0))]) CF (x_X5_length_1 l hl9 D cI cW cP (ad (4, 0)) (ad (5, 0)) (ad (6, 0)) np (ad (7, 0)) (ad (8, 0)) (ad (9, 0)) (ad (10, 0)) a (by first | omega | assumption) (by first | omega | assumption) A0 H.size) (cwV 1 hts gL_length_X5_length rfl rfl rfl (by decide +kernel) ⟨Nat.le_of_ble_eq_true rfl, Nat.le_of_ble_eq_true rfl⟩) (zw_preTV (va_recv hK hRc (ci := 4) (q0 := 0) rfl rfl) hX hA0 hA hS hRc (hK.sub (tys' := [(cI, .int), (cW, .object RX3), (cP, .object RX2)]) [0, 1, 2] rfl)) rfl rfl hl.1 rfl (lv_room (Nat.le_of_ble_eq_true rfl)) dL_length_4 ⟨Nat.le_of_ble_eq_true rfl, Nat.le_of_ble_eq_true rfl⟩) hF hS hA hown [] ⟨0, 9, 12, 13⟩ [] (htab.trans rfl) (fun _ h => absurd h List.not_mem_nil) rfl (by decide) (hts (.classLink RL 13 "java/lang/IndexOutOfBoundsException") (by decide +kernel)) (z_cast (hts (.initialized "java/lang/IndexOutOfBoundsException") (by decide +kernel))) (fun q H locs hF hS => ?_)
  refine lv_astore_n (lv' := [(3, .ref q), (0, .ref (ad (4, 0))), (1, .int (zI a)), (2, .ref (ad (18, 0)))]) hx hb dL_length_12 rfl hl (by decide) rfl (fun ls hl => ?_)
  have hl := lv_sub hl [1, 2, 3, 0] rfl
  have hl : lv_has ls 4 [(0, .ref (ad (4, 0))), (1, .int (zI a)), (2, .ref (ad (18, 0))), (3, .ref q)] := hl
  refine z_iconst hx hb dL_length_13 ?_
  refine W.widen (k := 2) (n := 70) (Nat.le_of_ble_eq_true rfl) (Nat.le_of_ble_eq_true rfl) ?_
  exact zw_iret hx hb hr hlocks (1, o, c, ar) rfl (zWp_err (by decide)) hF hI hKA hS dL_length_14

set_option maxHeartbeats 4000000 in
set_option maxRecDepth 100000 in
theorem w_length_ok (l : Launch) (hl9 : l.stackTraces = false) (D : va_G) (cI cW cP cJ : ClassId) (ad : zk → Nat) (ar : zk → Int → Int) (c : Int → Int) (np : Int) (pp pn : Int → Int) (pg : Int → Option Nat) (o : Nat → Int64) (a : Int) (hYI : zYI ad ar c np pp pn pg) (hra : 0 ≤ a ∧ a < 4) : zWC l yL_length wsL_length D [(cI, .int), (cW, .object RX3), (cP, .object RX2), (cJ, .long)] (zYK np) (zY cI cW cP cJ ad ar c np pp pn pg o) [.ref (ad (4, 0)), .int (zI a), .ref (ad (18, 0))] (S := Int × (Nat → Int64) × (Int → Int) × (zk → Int → Int)) (zWp 0 (c a) False c ar 0 0 (fun _ => 0)) (fun u => some (.int (zI u.1))) (fun _ => zYK np) (fun u => zY cI cW cP cJ ad u.2.2.2 u.2.2.1 np pp pn pg u.2.1) := by
  obtain ⟨hnp, hcr, hgr, hpl⟩ := hYI
  have hca_ := hcr a hra
  refine z_startW (cc := cL_length) (maxL := 4) (ret := some .int) (hh := [(0, 9, 12, 13)]) (own := RL) (by decide) rfl rfl (Nat.le_of_ble_eq_true rfl) [(0, .ref (ad (4, 0))), (1, .int (zI a)), (2, .ref (ad (18, 0)))] rfl ?_
  intro pp_ ee s mm below meth cc A0 H ls hX hA0 htab hx hb hr hml hts hown hlocks hK hF hI hKA hS hA hl
  have CF : CallFix pp_ mm cc cL_length 4 s ([.ref (ad (4, 0)), .int (zI a), .ref (ad (18, 0))] : List Value).toArray wsL_length RL := ⟨hx, hb, hml, hown, hts⟩
  refine lv_aload_n hx hb dL_length_0 rfl (lv_at hl 2 rfl) ?_
  refine z_iconst hx hb dL_length_1 ?_
  refine lv_aload_n hx hb dL_length_2 rfl (lv_at hl 0 rfl) ?_
  refine lv_iload_n hx hb dL_length_3 rfl (lv_at hl 1 rfl) ?_
  have hRc := zf_sub hF [(4, 0), (5, 0), (0, a)] (List.forall_mem_cons.mpr ⟨zKf 4 rfl rfl, (List.forall_mem_cons.mpr ⟨zKf 5 rfl rfl, (List.forall_mem_cons.mpr ⟨zK0 hra, (fun _ h => absurd h List.not_mem_nil)⟩)⟩)⟩) (wc := [((ad (4, 0)), .inr (4, [.ref (ad (5, 0)), .ref (ad (6, 0)), .int (zI np), .ref (ad (7, 0)), .ref (ad (8, 0)), .ref (ad (9, 0)), .ref (ad (10, 0))])), ((ad (5, 0)), .inl (cW, 4, .inr (.inr (.inr (.inr (fun k : Nat => (zRg ad) (k : Int))))))), ((ad (0, a)), .inr (2, [.ref (ad (1, a)), .int (zI (c a))]))]) rfl
  refine zf_call (wc := []) (va_runV (As := [.int (zI a)]) (rest := [.int (zI 0), .ref (ad (18, 0))]) CF (c_X5_length_ok l D cI cW cP (ad (4, 0)) (ad (5, 0)) (ad (6, 0)) np (ad (7, 0)) (ad (8, 0)) (ad (9, 0)) (ad (10, 0)) (zRg ad) a (ad (0, a)) (ad (1, a)) (c a) (by first | omega | assumption) (by exact zRg_at hra) H.size) (cwV 1 hts gL_length_X5_length rfl rfl rfl (by decide +kernel) ⟨Nat.le_of_ble_eq_true rfl, Nat.le_of_ble_eq_true rfl⟩) (z_preV (va_recv hK hRc (ci := 4) (q0 := 0) rfl rfl) z_nilP (z_nilD (A := zFr (zYK np) (zY cI cW cP cJ ad ar c np pp pn pg o) s.heap.size)) hRc z_noX (hK.sub (tys' := [(cI, .int), (cW, .object RX3), (cP, .object RX2)]) [0, 1, 2] rfl)) rfl rfl hl.1 rfl (lv_room (Nat.le_of_ble_eq_true rfl)) dL_length_4 ⟨Nat.le_of_ble_eq_true rfl, Nat.le_of_ble_eq_true rfl⟩) hF hI hKA hS hA [] [] (fun _ h => absurd h List.not_mem_nil) rfl (fun _ => zYK np) (fun _ => zY cI cW cP cJ ad ar c np pp pn pg o) (fun _ _ => rfl) (fun _ _ k hk => Or.inr ⟨hk, List.not_mem_nil, rfl⟩) (cells' := 0) (slots' := 0) rfl rfl (fun u_ H locs hp_ hF hI hKA hS => ?_)
  have hrg_ : -2147483648 ≤ (c a) ∧ (c a) ≤ 2147483647 := by omega
  refine z_i2l hx hb dL_length_7 hrg_ ?_
  refine zw_last hx hb hK hF hI hKA hS (ko := (18, 0)) (zKf 18 rfl rfl) (v := (c a)) rfl 3 rfl dL_length_8 (zY cI cW cP cJ ad ar c np pp pn pg (vp_updL o 0 (zL (c a)))) (fun k hk hne => zY_out hk hne) rfl (fun H locs hF hI hKA hS => ?_)
  refine lv_goto (tgt := 15) hx hb dL_length_9 (by decide) ?_
  refine z_iconst hx hb dL_length_15 ?_
  refine W.widen (k := 2) (n := 70) (Nat.le_of_ble_eq_true rfl) (Nat.le_of_ble_eq_true rfl) ?_
  have hv_e : (c a) = c a := by rfl
  rw [hv_e] at hrg_
  have hv_0 : (vp_updL o 0 (zL (c a))) 0 = zL (c a) := (show vp_updL o 0 (zL (c a)) 0 = zL (c a) from if_pos rfl).trans (congrArg zL hv_e)
  exact zw_iret hx hb hr hlocks (0, vp_updL o 0 (zL (c a)), c, ar) rfl (zWp_ro hv_0 hrg_ (fun r => rfl) (fun j => rfl)) hF hI hKA hS dL_length_16

set_option maxHeartbeats 4000000 in
set_option maxRecDepth 100000 in
theorem w_at_e1a (l : Launch) (hl9 : l.stackTraces = false) (D : va_G) (cI cW cP cJ : ClassId) (ad : zk → Nat) (ar : zk → Int → Int) (c : Int → Int) (np : Int) (pp pn : Int → Int) (pg : Int → Option Nat) (o : Nat → Int64) (a : Int) (x : Int) (hYI : zYI ad ar c np pp pn pg) (ha_a : -2147483648 ≤ a ∧ a ≤ 2147483647) (ha_x : -2147483648 ≤ x ∧ x ≤ 2147483647) (hba : ¬ (0 ≤ a ∧ a < 4)) : zWC l yL_at wsL_at D [(cI, .int), (cW, .object RX3), (cP, .object RX2), (cJ, .long)] (zYK np) (zY cI cW cP cJ ad ar c np pp pn pg o) [.ref (ad (4, 0)), .int (zI a), .int (zI x), .ref (ad (18, 0))] (S := Int × (Nat → Int64) × (Int → Int) × (zk → Int → Int)) (zWp 1 (zG ar c a x) False c ar 0 0 (fun _ => 0)) (fun u => some (.int (zI u.1))) (fun _ => zYK np) (fun u => zY cI cW cP cJ ad u.2.2.2 u.2.2.1 np pp pn pg u.2.1) := by
  obtain ⟨hnp, hcr, hgr, hpl⟩ := hYI
  refine z_startW (cc := cL_at) (maxL := 5) (ret := some .int) (hh := [(0, 10, 13, 13)]) (own := RL) (by decide) rfl rfl (Nat.le_of_ble_eq_true rfl) [(0, .ref (ad (4, 0))), (1, .int (zI a)), (2, .int (zI x)), (3, .ref (ad (18, 0)))] rfl ?_
  intro pp_ ee s mm below meth cc A0 H ls hX hA0 htab hx hb hr hml hts hown hlocks hK hF hI hKA hS hA hl
  have CF : CallFix pp_ mm cc cL_at 5 s ([.ref (ad (4, 0)), .int (zI a), .int (zI x), .ref (ad (18, 0))] : List Value).toArray wsL_at RL := ⟨hx, hb, hml, hown, hts⟩
  refine lv_aload_n hx hb dL_at_0 rfl (lv_at hl 3 rfl) ?_
  refine z_iconst hx hb dL_at_1 ?_
  refine lv_aload_n hx hb dL_at_2 rfl (lv_at hl 0 rfl) ?_
  refine lv_iload_n hx hb dL_at_3 rfl (lv_at hl 1 rfl) ?_
  refine lv_iload_n hx hb dL_at_4 rfl (lv_at hl 2 rfl) ?_
  have hRc := zf_sub hF [(4, 0)] (List.forall_mem_cons.mpr ⟨zKf 4 rfl rfl, (fun _ h => absurd h List.not_mem_nil)⟩) (wc := [((ad (4, 0)), .inr (4, [.ref (ad (5, 0)), .ref (ad (6, 0)), .int (zI np), .ref (ad (7, 0)), .ref (ad (8, 0)), .ref (ad (9, 0)), .ref (ad (10, 0))]))]) rfl
  refine zw_catch (E := "java/lang/IndexOutOfBoundsException") (name := "java/lang/IndexOutOfBoundsException") (own := RL) (vx_runV (As := [.int (zI a), .int (zI x)]) (rest := [.int (zI 0), .ref (ad (18, 0))]) CF (x_X5_at_1a l hl9 D cI cW cP (ad (4, 0)) (ad (5, 0)) (ad (6, 0)) np (ad (7, 0)) (ad (8, 0)) (ad (9, 0)) (ad (10, 0)) a x (by first | omega | assumption) (by first | omega | assumption) A0 H.size) (cwV 2 hts gL_at_X5_at rfl rfl rfl (by decide +kernel) ⟨Nat.le_of_ble_eq_true rfl, Nat.le_of_ble_eq_true rfl⟩) (zw_preTV (va_recv hK hRc (ci := 4) (q0 := 0) rfl rfl) hX hA0 hA hS hRc (hK.sub (tys' := [(cI, .int), (cW, .object RX3), (cP, .object RX2)]) [0, 1, 2] rfl)) rfl rfl hl.1 rfl (lv_room (Nat.le_of_ble_eq_true rfl)) dL_at_5 ⟨Nat.le_of_ble_eq_true rfl, Nat.le_of_ble_eq_true rfl⟩) hF hS hA hown [] ⟨0, 10, 13, 13⟩ [] (htab.trans rfl) (fun _ h => absurd h List.not_mem_nil) rfl (by decide) (hts (.classLink RL 13 "java/lang/IndexOutOfBoundsException") (by decide +kernel)) (z_cast (hts (.initialized "java/lang/IndexOutOfBoundsException") (by decide +kernel))) (fun q H locs hF hS => ?_)
  refine lv_astore (lv' := [(4, .ref q), (0, .ref (ad (4, 0))), (1, .int (zI a)), (2, .int (zI x)), (3, .ref (ad (18, 0)))]) hx hb dL_at_13 hl (by decide) rfl (fun ls hl => ?_)
  have hl := lv_sub hl [1, 2, 3, 4, 0] rfl
  have hl : lv_has ls 5 [(0, .ref (ad (4, 0))), (1, .int (zI a)), (2, .int (zI x)), (3, .ref (ad (18, 0))), (4, .ref q)] := hl
  refine z_iconst hx hb dL_at_15 ?_
  refine W.widen (k := 2) (n := 70) (Nat.le_of_ble_eq_true rfl) (Nat.le_of_ble_eq_true rfl) ?_
  exact zw_iret hx hb hr hlocks (1, o, c, ar) rfl (zWp_err (by decide)) hF hI hKA hS dL_at_16

set_option maxHeartbeats 4000000 in
set_option maxRecDepth 100000 in
theorem w_at_e1b (l : Launch) (hl9 : l.stackTraces = false) (D : va_G) (cI cW cP cJ : ClassId) (ad : zk → Nat) (ar : zk → Int → Int) (c : Int → Int) (np : Int) (pp pn : Int → Int) (pg : Int → Option Nat) (o : Nat → Int64) (a : Int) (x : Int) (hYI : zYI ad ar c np pp pn pg) (ha_x : -2147483648 ≤ x ∧ x ≤ 2147483647) (hra : 0 ≤ a ∧ a < 4) (hx_ : ¬ (0 ≤ x ∧ x < c a)) : zWC l yL_at wsL_at D [(cI, .int), (cW, .object RX3), (cP, .object RX2), (cJ, .long)] (zYK np) (zY cI cW cP cJ ad ar c np pp pn pg o) [.ref (ad (4, 0)), .int (zI a), .int (zI x), .ref (ad (18, 0))] (S := Int × (Nat → Int64) × (Int → Int) × (zk → Int → Int)) (zWp 1 (zG ar c a x) False c ar 0 0 (fun _ => 0)) (fun u => some (.int (zI u.1))) (fun _ => zYK np) (fun u => zY cI cW cP cJ ad u.2.2.2 u.2.2.1 np pp pn pg u.2.1) := by
  obtain ⟨hnp, hcr, hgr, hpl⟩ := hYI
  have hca_ := hcr a hra
  refine z_startW (cc := cL_at) (maxL := 5) (ret := some .int) (hh := [(0, 10, 13, 13)]) (own := RL) (by decide) rfl rfl (Nat.le_of_ble_eq_true rfl) [(0, .ref (ad (4, 0))), (1, .int (zI a)), (2, .int (zI x)), (3, .ref (ad (18, 0)))] rfl ?_
  intro pp_ ee s mm below meth cc A0 H ls hX hA0 htab hx hb hr hml hts hown hlocks hK hF hI hKA hS hA hl
  have CF : CallFix pp_ mm cc cL_at 5 s ([.ref (ad (4, 0)), .int (zI a), .int (zI x), .ref (ad (18, 0))] : List Value).toArray wsL_at RL := ⟨hx, hb, hml, hown, hts⟩
  refine lv_aload_n hx hb dL_at_0 rfl (lv_at hl 3 rfl) ?_
  refine z_iconst hx hb dL_at_1 ?_
  refine lv_aload_n hx hb dL_at_2 rfl (lv_at hl 0 rfl) ?_
  refine lv_iload_n hx hb dL_at_3 rfl (lv_at hl 1 rfl) ?_
  refine lv_iload_n hx hb dL_at_4 rfl (lv_at hl 2 rfl) ?_
  have hRc := zf_sub hF [(4, 0), (5, 0), (0, a)] (List.forall_mem_cons.mpr ⟨zKf 4 rfl rfl, (List.forall_mem_cons.mpr ⟨zKf 5 rfl rfl, (List.forall_mem_cons.mpr ⟨zK0 hra, (fun _ h => absurd h List.not_mem_nil)⟩)⟩)⟩) (wc := [((ad (4, 0)), .inr (4, [.ref (ad (5, 0)), .ref (ad (6, 0)), .int (zI np), .ref (ad (7, 0)), .ref (ad (8, 0)), .ref (ad (9, 0)), .ref (ad (10, 0))])), ((ad (5, 0)), .inl (cW, 4, .inr (.inr (.inr (.inr (fun k : Nat => (zRg ad) (k : Int))))))), ((ad (0, a)), .inr (2, [.ref (ad (1, a)), .int (zI (c a))]))]) rfl
  refine zw_catch (E := "java/lang/IndexOutOfBoundsException") (name := "java/lang/IndexOutOfBoundsException") (own := RL) (vx_runV (As := [.int (zI a), .int (zI x)]) (rest := [.int (zI 0), .ref (ad (18, 0))]) CF (x_X5_at_1b l hl9 D cI cW cP (ad (4, 0)) (ad (5, 0)) (ad (6, 0)) np (ad (7, 0)) (ad (8, 0)) (ad (9, 0)) (ad (10, 0)) (zRg ad) a x (ad (0, a)) (ad (1, a)) (c a) (by first | omega | assumption) (by exact zRg_at hra) (by first | omega | assumption) (by first | omega | assumption) (by first | omega | assumption) A0 H.size) (cwV 2 hts gL_at_X5_at rfl rfl rfl (by decide +kernel) ⟨Nat.le_of_ble_eq_true rfl, Nat.le_of_ble_eq_true rfl⟩) (zw_preTV (va_recv hK hRc (ci := 4) (q0 := 0) rfl rfl) hX hA0 hA hS hRc (hK.sub (tys' := [(cI, .int), (cW, .object RX3), (cP, .object RX2)]) [0, 1, 2] rfl)) rfl rfl hl.1 rfl (lv_room (Nat.le_of_ble_eq_true rfl)) dL_at_5 ⟨Nat.le_of_ble_eq_true rfl, Nat.le_of_ble_eq_true rfl⟩) hF hS hA hown [] ⟨0, 10, 13, 13⟩ [] (htab.trans rfl) (fun _ h => absurd h List.not_mem_nil) rfl (by decide) (hts (.classLink RL 13 "java/lang/IndexOutOfBoundsException") (by decide +kernel)) (z_cast (hts (.initialized "java/lang/IndexOutOfBoundsException") (by decide +kernel))) (fun q H locs hF hS => ?_)
  refine lv_astore (lv' := [(4, .ref q), (0, .ref (ad (4, 0))), (1, .int (zI a)), (2, .int (zI x)), (3, .ref (ad (18, 0)))]) hx hb dL_at_13 hl (by decide) rfl (fun ls hl => ?_)
  have hl := lv_sub hl [1, 2, 3, 4, 0] rfl
  have hl : lv_has ls 5 [(0, .ref (ad (4, 0))), (1, .int (zI a)), (2, .int (zI x)), (3, .ref (ad (18, 0))), (4, .ref q)] := hl
  refine z_iconst hx hb dL_at_15 ?_
  refine W.widen (k := 2) (n := 70) (Nat.le_of_ble_eq_true rfl) (Nat.le_of_ble_eq_true rfl) ?_
  exact zw_iret hx hb hr hlocks (1, o, c, ar) rfl (zWp_err (by decide)) hF hI hKA hS dL_at_16

set_option maxHeartbeats 4000000 in
set_option maxRecDepth 100000 in
theorem w_at_ok (l : Launch) (hl9 : l.stackTraces = false) (D : va_G) (cI cW cP cJ : ClassId) (ad : zk → Nat) (ar : zk → Int → Int) (c : Int → Int) (np : Int) (pp pn : Int → Int) (pg : Int → Option Nat) (o : Nat → Int64) (a : Int) (x : Int) (hYI : zYI ad ar c np pp pn pg) (hra : 0 ≤ a ∧ a < 4) (hx_ : 0 ≤ x ∧ x < c a) : zWC l yL_at wsL_at D [(cI, .int), (cW, .object RX3), (cP, .object RX2), (cJ, .long)] (zYK np) (zY cI cW cP cJ ad ar c np pp pn pg o) [.ref (ad (4, 0)), .int (zI a), .int (zI x), .ref (ad (18, 0))] (S := Int × (Nat → Int64) × (Int → Int) × (zk → Int → Int)) (zWp 0 (zG ar c a x) False c ar 0 0 (fun _ => 0)) (fun u => some (.int (zI u.1))) (fun _ => zYK np) (fun u => zY cI cW cP cJ ad u.2.2.2 u.2.2.1 np pp pn pg u.2.1) := by
  obtain ⟨hnp, hcr, hgr, hpl⟩ := hYI
  have hca_ := hcr a hra
  have hgx := hgr a hra x hx_.1 hx_.2
  refine z_startW (cc := cL_at) (maxL := 5) (ret := some .int) (hh := [(0, 10, 13, 13)]) (own := RL) (by decide) rfl rfl (Nat.le_of_ble_eq_true rfl) [(0, .ref (ad (4, 0))), (1, .int (zI a)), (2, .int (zI x)), (3, .ref (ad (18, 0)))] rfl ?_
  intro pp_ ee s mm below meth cc A0 H ls hX hA0 htab hx hb hr hml hts hown hlocks hK hF hI hKA hS hA hl
  have CF : CallFix pp_ mm cc cL_at 5 s ([.ref (ad (4, 0)), .int (zI a), .int (zI x), .ref (ad (18, 0))] : List Value).toArray wsL_at RL := ⟨hx, hb, hml, hown, hts⟩
  refine lv_aload_n hx hb dL_at_0 rfl (lv_at hl 3 rfl) ?_
  refine z_iconst hx hb dL_at_1 ?_
  refine lv_aload_n hx hb dL_at_2 rfl (lv_at hl 0 rfl) ?_
  refine lv_iload_n hx hb dL_at_3 rfl (lv_at hl 1 rfl) ?_
  refine lv_iload_n hx hb dL_at_4 rfl (lv_at hl 2 rfl) ?_
  have hRc := zf_sub hF [(4, 0), (5, 0), (0, a), (1, a)] (List.forall_mem_cons.mpr ⟨zKf 4 rfl rfl, (List.forall_mem_cons.mpr ⟨zKf 5 rfl rfl, (List.forall_mem_cons.mpr ⟨zK0 hra, (List.forall_mem_cons.mpr ⟨zK1 hra, (fun _ h => absurd h List.not_mem_nil)⟩)⟩)⟩)⟩) (wc := [((ad (4, 0)), .inr (4, [.ref (ad (5, 0)), .ref (ad (6, 0)), .int (zI np), .ref (ad (7, 0)), .ref (ad (8, 0)), .ref (ad (9, 0)), .ref (ad (10, 0))])), ((ad (5, 0)), .inl (cW, 4, .inr (.inr (.inr (.inr (fun k : Nat => (zRg ad) (k : Int))))))), ((ad (0, a)), .inr (2, [.ref (ad (1, a)), .int (zI (c a))])), ((ad (1, a)), .inl (cI, 64, .inl (zA (ar (1, a)))))]) rfl
  refine zf_call (wc := []) (va_runV (As := [.int (zI a), .int (zI x)]) (rest := [.int (zI 0), .ref (ad (18, 0))]) CF (c_X5_at_ok l D cI cW cP (ad (4, 0)) (ad (5, 0)) (ad (6, 0)) np (ad (7, 0)) (ad (8, 0)) (ad (9, 0)) (ad (10, 0)) (zRg ad) a x (ad (0, a)) (ad (1, a)) (c a) (ar (1, a)) (by first | omega | assumption) (by exact zRg_at hra) (by first | omega | assumption) (by first | omega | assumption) H.size) (cwV 2 hts gL_at_X5_at rfl rfl rfl (by decide +kernel) ⟨Nat.le_of_ble_eq_true rfl, Nat.le_of_ble_eq_true rfl⟩) (z_preV (va_recv hK hRc (ci := 4) (q0 := 0) rfl rfl) z_nilP (z_nilD (A := zFr (zYK np) (zY cI cW cP cJ ad ar c np pp pn pg o) s.heap.size)) hRc z_noX (hK.sub (tys' := [(cI, .int), (cW, .object RX3), (cP, .object RX2)]) [0, 1, 2] rfl)) rfl rfl hl.1 rfl (lv_room (Nat.le_of_ble_eq_true rfl)) dL_at_5 ⟨Nat.le_of_ble_eq_true rfl, Nat.le_of_ble_eq_true rfl⟩) hF hI hKA hS hA [] [] (fun _ h => absurd h List.not_mem_nil) rfl (fun _ => zYK np) (fun _ => zY cI cW cP cJ ad ar c np pp pn pg o) (fun _ _ => rfl) (fun _ _ k hk => Or.inr ⟨hk, List.not_mem_nil, rfl⟩) (cells' := 0) (slots' := 0) rfl rfl (fun u_ H locs hp_ hF hI hKA hS => ?_)
  have hrg_ : -2147483648 ≤ (ar (1, a)) x ∧ (ar (1, a)) x ≤ 2147483647 := by omega
  refine z_i2l hx hb dL_at_8 hrg_ ?_
  refine zw_last hx hb hK hF hI hKA hS (ko := (18, 0)) (zKf 18 rfl rfl) (v := (ar (1, a)) x) rfl 3 rfl dL_at_9 (zY cI cW cP cJ ad ar c np pp pn pg (vp_updL o 0 (zL ((ar (1, a)) x)))) (fun k hk hne => zY_out hk hne) rfl (fun H locs hF hI hKA hS => ?_)
  refine lv_goto (tgt := 17) hx hb dL_at_10 (by decide) ?_
  refine z_iconst hx hb dL_at_17 ?_
  refine W.widen (k := 2) (n := 70) (Nat.le_of_ble_eq_true rfl) (Nat.le_of_ble_eq_true rfl) ?_
  have hv_e : (ar (1, a)) x = zG ar c a x := by exact (rowAt_in hx_).symm
  rw [hv_e] at hrg_
  have hv_0 : (vp_updL o 0 (zL ((ar (1, a)) x))) 0 = zL (zG ar c a x) := (show vp_updL o 0 (zL ((ar (1, a)) x)) 0 = zL ((ar (1, a)) x) from if_pos rfl).trans (congrArg zL hv_e)
  exact zw_iret hx hb hr hlocks (0, vp_updL o 0 (zL ((ar (1, a)) x)), c, ar) rfl (zWp_ro hv_0 hrg_ (fun r => rfl) (fun j => rfl)) hF hI hKA hS dL_at_18

set_option maxHeartbeats 4000000 in
set_option maxRecDepth 100000 in
theorem w_root_e1 (l : Launch) (hl9 : l.stackTraces = false) (D : va_G) (cI cW cP cJ : ClassId) (ad : zk → Nat) (ar : zk → Int → Int) (c : Int → Int) (np : Int) (pp pn : Int → Int) (pg : Int → Option Nat) (o : Nat → Int64) (i : Int) (hYI : zYI ad ar c np pp pn pg) (ha_i : -2147483648 ≤ i ∧ i ≤ 2147483647) (hi : ¬ (0 ≤ i ∧ i < np)) : zWC l yL_root wsL_root D [(cI, .int), (cW, .object RX3), (cP, .object RX2), (cJ, .long)] (zYK np) (zY cI cW cP cJ ad ar c np pp pn pg o) [.ref (ad (4, 0)), .int (zI i), .ref (ad (18, 0))] (S := Int × (Nat → Int64) × (Int → Int) × (zk → Int → Int)) (zWp 1 (zRoot (pp i) (pn i)) False c ar 0 0 (fun _ => 0)) (fun u => some (.int (zI u.1))) (fun _ => zYK np) (fun u => zY cI cW cP cJ ad u.2.2.2 u.2.2.1 np pp pn pg u.2.1) := by
  obtain ⟨hnp, hcr, hgr, hpl⟩ := hYI
  refine z_startW (cc := cL_root) (maxL := 4) (ret := some .int) (hh := [(0, 9, 12, 13)]) (own := RL) (by decide) rfl rfl (Nat.le_of_ble_eq_true rfl) [(0, .ref (ad (4, 0))), (1, .int (zI i)), (2, .ref (ad (18, 0)))] rfl ?_
  intro pp_ ee s mm below meth cc A0 H ls hX hA0 htab hx hb hr hml hts hown hlocks hK hF hI hKA hS hA hl
  have CF : CallFix pp_ mm cc cL_root 4 s ([.ref (ad (4, 0)), .int (zI i), .ref (ad (18, 0))] : List Value).toArray wsL_root RL := ⟨hx, hb, hml, hown, hts⟩
  refine lv_aload_n hx hb dL_root_0 rfl (lv_at hl 2 rfl) ?_
  refine z_iconst hx hb dL_root_1 ?_
  refine lv_aload_n hx hb dL_root_2 rfl (lv_at hl 0 rfl) ?_
  refine lv_iload_n hx hb dL_root_3 rfl (lv_at hl 1 rfl) ?_
  have hRc := zf_sub hF [(4, 0)] (List.forall_mem_cons.mpr ⟨zKf 4 rfl rfl, (fun _ h => absurd h List.not_mem_nil)⟩) (wc := [((ad (4, 0)), .inr (4, [.ref (ad (5, 0)), .ref (ad (6, 0)), .int (zI np), .ref (ad (7, 0)), .ref (ad (8, 0)), .ref (ad (9, 0)), .ref (ad (10, 0))]))]) rfl
  refine zw_catch (E := "java/lang/IndexOutOfBoundsException") (name := "java/lang/IndexOutOfBoundsException") (own := RL) (vx_runV (As := [.int (zI i)]) (rest := [.int (zI 0), .ref (ad (18, 0))]) CF (x_X5_root_1 l hl9 D cI cW cP (ad (4, 0)) (ad (5, 0)) (ad (6, 0)) np (ad (7, 0)) (ad (8, 0)) (ad (9, 0)) (ad (10, 0)) i (by first | omega | assumption) (by first | omega | assumption) (by first | omega | assumption) A0 H.size) (cwV 1 hts gL_root_X5_root rfl rfl rfl (by decide +kernel) ⟨Nat.le_of_ble_eq_true rfl, Nat.le_of_ble_eq_true rfl⟩) (zw_preTV (va_recv hK hRc (ci := 4) (q0 := 0) rfl rfl) hX hA0 hA hS hRc (hK.sub (tys' := [(cI, .int), (cW, .object RX3), (cP, .object RX2)]) [0, 1, 2] rfl)) rfl rfl hl.1 rfl (lv_room (Nat.le_of_ble_eq_true rfl)) dL_root_4 ⟨Nat.le_of_ble_eq_true rfl, Nat.le_of_ble_eq_true rfl⟩) hF hS hA hown [] ⟨0, 9, 12, 13⟩ [] (htab.trans rfl) (fun _ h => absurd h List.not_mem_nil) rfl (by decide) (hts (.classLink RL 13 "java/lang/IndexOutOfBoundsException") (by decide +kernel)) (z_cast (hts (.initialized "java/lang/IndexOutOfBoundsException") (by decide +kernel))) (fun q H locs hF hS => ?_)
  refine lv_astore_n (lv' := [(3, .ref q), (0, .ref (ad (4, 0))), (1, .int (zI i)), (2, .ref (ad (18, 0)))]) hx hb dL_root_12 rfl hl (by decide) rfl (fun ls hl => ?_)
  have hl := lv_sub hl [1, 2, 3, 0] rfl
  have hl : lv_has ls 4 [(0, .ref (ad (4, 0))), (1, .int (zI i)), (2, .ref (ad (18, 0))), (3, .ref q)] := hl
  refine z_iconst hx hb dL_root_13 ?_
  refine W.widen (k := 2) (n := 70) (Nat.le_of_ble_eq_true rfl) (Nat.le_of_ble_eq_true rfl) ?_
  exact zw_iret hx hb hr hlocks (1, o, c, ar) rfl (zWp_err (by decide)) hF hI hKA hS dL_root_14

set_option maxHeartbeats 4000000 in
set_option maxRecDepth 100000 in
theorem w_root_ok (l : Launch) (hl9 : l.stackTraces = false) (D : va_G) (cI cW cP cJ : ClassId) (ad : zk → Nat) (ar : zk → Int → Int) (c : Int → Int) (np : Int) (pp pn : Int → Int) (pg : Int → Option Nat) (o : Nat → Int64) (i : Int) (hYI : zYI ad ar c np pp pn pg) (hi : 0 ≤ i ∧ i < np) : zWC l yL_root wsL_root D [(cI, .int), (cW, .object RX3), (cP, .object RX2), (cJ, .long)] (zYK np) (zY cI cW cP cJ ad ar c np pp pn pg o) [.ref (ad (4, 0)), .int (zI i), .ref (ad (18, 0))] (S := Int × (Nat → Int64) × (Int → Int) × (zk → Int → Int)) (zWp 0 (zRoot (pp i) (pn i)) False c ar 0 0 (fun _ => 0)) (fun u => some (.int (zI u.1))) (fun _ => zYK np) (fun u => zY cI cW cP cJ ad u.2.2.2 u.2.2.1 np pp pn pg u.2.1) := by
  obtain ⟨hnp, hcr, hgr, hpl⟩ := hYI
  obtain ⟨hpn, hpw, hiq⟩ := hpl i hi
  obtain ⟨⟨hp3, hp4, hp5⟩, hp6, hn1, hn2, hn3⟩ := id hpn
  have hrr := root_rng hpn
  refine z_startW (cc := cL_root) (maxL := 4) (ret := some .int) (hh := [(0, 9, 12, 13)]) (own := RL) (by decide) rfl rfl (Nat.le_of_ble_eq_true rfl) [(0, .ref (ad (4, 0))), (1, .int (zI i)), (2, .ref (ad (18, 0)))] rfl ?_
  intro pp_ ee s mm below meth cc A0 H ls hX hA0 htab hx hb hr hml hts hown hlocks hK hF hI hKA hS hA hl
  have CF : CallFix pp_ mm cc cL_root 4 s ([.ref (ad (4, 0)), .int (zI i), .ref (ad (18, 0))] : List Value).toArray wsL_root RL := ⟨hx, hb, hml, hown, hts⟩
  refine lv_aload_n hx hb dL_root_0 rfl (lv_at hl 2 rfl) ?_
  refine z_iconst hx hb dL_root_1 ?_
  refine lv_aload_n hx hb dL_root_2 rfl (lv_at hl 0 rfl) ?_
  refine lv_iload_n hx hb dL_root_3 rfl (lv_at hl 1 rfl) ?_
  have hRc := zf_sub hF [(4, 0), (6, 0), (2, i), (3, i)] (List.forall_mem_cons.mpr ⟨zKf 4 rfl rfl, (List.forall_mem_cons.mpr ⟨zKf 6 rfl rfl, (List.forall_mem_cons.mpr ⟨zK2 hi, (List.forall_mem_cons.mpr ⟨zK3 hi, (fun _ h => absurd h List.not_mem_nil)⟩)⟩)⟩)⟩) (wc := [((ad (4, 0)), .inr (4, [.ref (ad (5, 0)), .ref (ad (6, 0)), .int (zI np), .ref (ad (7, 0)), .ref (ad (8, 0)), .ref (ad (9, 0)), .ref (ad (10, 0))])), ((ad (6, 0)), .inl (cP, 8, .inr (.inr (.inr (.inr (fun k : Nat => pg (k : Int))))))), ((ad (2, i)), .inr (1, [.int (zI (pp i)), .int (zI (pn i)), .int (zI (zInv (pp i) (pn i))), .int (zI (wset (pn i))), .int (zI (zGn (pn i))), .ref (ad (3, i))])), ((ad (3, i)), .inl (cI, 64, .inl (zA (ar (3, i)))))]) rfl
  refine zf_call (wc := []) (va_runV (As := [.int (zI i)]) (rest := [.int (zI 0), .ref (ad (18, 0))]) CF (c_X5_root_ok l D cI cW cP (ad (4, 0)) (ad (5, 0)) (ad (6, 0)) np (ad (7, 0)) (ad (8, 0)) (ad (9, 0)) (ad (10, 0)) pg i (ad (2, i)) (pp i) (pn i) (ad (3, i)) (ar (3, i)) (by first | omega | assumption) (by exact hiq) (by first | omega | assumption) (by first | omega | assumption) H.size) (cwV 1 hts gL_root_X5_root rfl rfl rfl (by decide +kernel) ⟨Nat.le_of_ble_eq_true rfl, Nat.le_of_ble_eq_true rfl⟩) (z_preV (va_recv hK hRc (ci := 4) (q0 := 0) rfl rfl) z_nilP (z_nilD (A := zFr (zYK np) (zY cI cW cP cJ ad ar c np pp pn pg o) s.heap.size)) hRc z_noX (hK.sub (tys' := [(cI, .int), (cW, .object RX3), (cP, .object RX2)]) [0, 1, 2] rfl)) rfl rfl hl.1 rfl (lv_room (Nat.le_of_ble_eq_true rfl)) dL_root_4 ⟨Nat.le_of_ble_eq_true rfl, Nat.le_of_ble_eq_true rfl⟩) hF hI hKA hS hA [] [] (fun _ h => absurd h List.not_mem_nil) rfl (fun _ => zYK np) (fun _ => zY cI cW cP cJ ad ar c np pp pn pg o) (fun _ _ => rfl) (fun _ _ k hk => Or.inr ⟨hk, List.not_mem_nil, rfl⟩) (cells' := 0) (slots' := 0) rfl rfl (fun u_ H locs hp_ hF hI hKA hS => ?_)
  have hrg_ : -2147483648 ≤ zRoot (pp i) (pn i) ∧ zRoot (pp i) (pn i) ≤ 2147483647 := by omega
  refine z_i2l hx hb dL_root_7 hrg_ ?_
  refine zw_last hx hb hK hF hI hKA hS (ko := (18, 0)) (zKf 18 rfl rfl) (v := zRoot (pp i) (pn i)) rfl 3 rfl dL_root_8 (zY cI cW cP cJ ad ar c np pp pn pg (vp_updL o 0 (zL (zRoot (pp i) (pn i))))) (fun k hk hne => zY_out hk hne) rfl (fun H locs hF hI hKA hS => ?_)
  refine lv_goto (tgt := 15) hx hb dL_root_9 (by decide) ?_
  refine z_iconst hx hb dL_root_15 ?_
  refine W.widen (k := 2) (n := 70) (Nat.le_of_ble_eq_true rfl) (Nat.le_of_ble_eq_true rfl) ?_
  have hv_e : zRoot (pp i) (pn i) = zRoot (pp i) (pn i) := by rfl
  rw [hv_e] at hrg_
  have hv_0 : (vp_updL o 0 (zL (zRoot (pp i) (pn i)))) 0 = zL (zRoot (pp i) (pn i)) := (show vp_updL o 0 (zL (zRoot (pp i) (pn i))) 0 = zL (zRoot (pp i) (pn i)) from if_pos rfl).trans (congrArg zL hv_e)
  exact zw_iret hx hb hr hlocks (0, vp_updL o 0 (zL (zRoot (pp i) (pn i))), c, ar) rfl (zWp_ro hv_0 hrg_ (fun r => rfl) (fun j => rfl)) hF hI hKA hS dL_root_16

set_option maxHeartbeats 4000000 in
set_option maxRecDepth 100000 in
theorem w_ways_e1 (l : Launch) (hl9 : l.stackTraces = false) (D : va_G) (cI cW cP cJ : ClassId) (ad : zk → Nat) (ar : zk → Int → Int) (c : Int → Int) (np : Int) (pp pn : Int → Int) (pg : Int → Option Nat) (o : Nat → Int64) (i : Int) (hYI : zYI ad ar c np pp pn pg) (ha_i : -2147483648 ≤ i ∧ i ≤ 2147483647) (hi : ¬ (0 ≤ i ∧ i < np)) : zWC l yL_ways wsL_ways D [(cI, .int), (cW, .object RX3), (cP, .object RX2), (cJ, .long)] (zYK np) (zY cI cW cP cJ ad ar c np pp pn pg o) [.ref (ad (4, 0)), .int (zI i), .ref (ad (18, 0))] (S := Int × (Nat → Int64) × (Int → Int) × (zk → Int → Int)) (zWp 1 (wset (pn i)) False c ar 0 0 (fun _ => 0)) (fun u => some (.int (zI u.1))) (fun _ => zYK np) (fun u => zY cI cW cP cJ ad u.2.2.2 u.2.2.1 np pp pn pg u.2.1) := by
  obtain ⟨hnp, hcr, hgr, hpl⟩ := hYI
  refine z_startW (cc := cL_ways) (maxL := 4) (ret := some .int) (hh := [(0, 9, 12, 13)]) (own := RL) (by decide) rfl rfl (Nat.le_of_ble_eq_true rfl) [(0, .ref (ad (4, 0))), (1, .int (zI i)), (2, .ref (ad (18, 0)))] rfl ?_
  intro pp_ ee s mm below meth cc A0 H ls hX hA0 htab hx hb hr hml hts hown hlocks hK hF hI hKA hS hA hl
  have CF : CallFix pp_ mm cc cL_ways 4 s ([.ref (ad (4, 0)), .int (zI i), .ref (ad (18, 0))] : List Value).toArray wsL_ways RL := ⟨hx, hb, hml, hown, hts⟩
  refine lv_aload_n hx hb dL_ways_0 rfl (lv_at hl 2 rfl) ?_
  refine z_iconst hx hb dL_ways_1 ?_
  refine lv_aload_n hx hb dL_ways_2 rfl (lv_at hl 0 rfl) ?_
  refine lv_iload_n hx hb dL_ways_3 rfl (lv_at hl 1 rfl) ?_
  have hRc := zf_sub hF [(4, 0)] (List.forall_mem_cons.mpr ⟨zKf 4 rfl rfl, (fun _ h => absurd h List.not_mem_nil)⟩) (wc := [((ad (4, 0)), .inr (4, [.ref (ad (5, 0)), .ref (ad (6, 0)), .int (zI np), .ref (ad (7, 0)), .ref (ad (8, 0)), .ref (ad (9, 0)), .ref (ad (10, 0))]))]) rfl
  refine zw_catch (E := "java/lang/IndexOutOfBoundsException") (name := "java/lang/IndexOutOfBoundsException") (own := RL) (vx_runV (As := [.int (zI i)]) (rest := [.int (zI 0), .ref (ad (18, 0))]) CF (x_X5_ways_1 l hl9 D cI cW cP (ad (4, 0)) (ad (5, 0)) (ad (6, 0)) np (ad (7, 0)) (ad (8, 0)) (ad (9, 0)) (ad (10, 0)) i (by first | omega | assumption) (by first | omega | assumption) (by first | omega | assumption) A0 H.size) (cwV 1 hts gL_ways_X5_ways rfl rfl rfl (by decide +kernel) ⟨Nat.le_of_ble_eq_true rfl, Nat.le_of_ble_eq_true rfl⟩) (zw_preTV (va_recv hK hRc (ci := 4) (q0 := 0) rfl rfl) hX hA0 hA hS hRc (hK.sub (tys' := [(cI, .int), (cW, .object RX3), (cP, .object RX2)]) [0, 1, 2] rfl)) rfl rfl hl.1 rfl (lv_room (Nat.le_of_ble_eq_true rfl)) dL_ways_4 ⟨Nat.le_of_ble_eq_true rfl, Nat.le_of_ble_eq_true rfl⟩) hF hS hA hown [] ⟨0, 9, 12, 13⟩ [] (htab.trans rfl) (fun _ h => absurd h List.not_mem_nil) rfl (by decide) (hts (.classLink RL 13 "java/lang/IndexOutOfBoundsException") (by decide +kernel)) (z_cast (hts (.initialized "java/lang/IndexOutOfBoundsException") (by decide +kernel))) (fun q H locs hF hS => ?_)
  refine lv_astore_n (lv' := [(3, .ref q), (0, .ref (ad (4, 0))), (1, .int (zI i)), (2, .ref (ad (18, 0)))]) hx hb dL_ways_12 rfl hl (by decide) rfl (fun ls hl => ?_)
  have hl := lv_sub hl [1, 2, 3, 0] rfl
  have hl : lv_has ls 4 [(0, .ref (ad (4, 0))), (1, .int (zI i)), (2, .ref (ad (18, 0))), (3, .ref q)] := hl
  refine z_iconst hx hb dL_ways_13 ?_
  refine W.widen (k := 2) (n := 70) (Nat.le_of_ble_eq_true rfl) (Nat.le_of_ble_eq_true rfl) ?_
  exact zw_iret hx hb hr hlocks (1, o, c, ar) rfl (zWp_err (by decide)) hF hI hKA hS dL_ways_14

set_option maxHeartbeats 4000000 in
set_option maxRecDepth 100000 in
theorem w_ways_ok (l : Launch) (hl9 : l.stackTraces = false) (D : va_G) (cI cW cP cJ : ClassId) (ad : zk → Nat) (ar : zk → Int → Int) (c : Int → Int) (np : Int) (pp pn : Int → Int) (pg : Int → Option Nat) (o : Nat → Int64) (i : Int) (hYI : zYI ad ar c np pp pn pg) (hi : 0 ≤ i ∧ i < np) : zWC l yL_ways wsL_ways D [(cI, .int), (cW, .object RX3), (cP, .object RX2), (cJ, .long)] (zYK np) (zY cI cW cP cJ ad ar c np pp pn pg o) [.ref (ad (4, 0)), .int (zI i), .ref (ad (18, 0))] (S := Int × (Nat → Int64) × (Int → Int) × (zk → Int → Int)) (zWp 0 (wset (pn i)) False c ar 0 0 (fun _ => 0)) (fun u => some (.int (zI u.1))) (fun _ => zYK np) (fun u => zY cI cW cP cJ ad u.2.2.2 u.2.2.1 np pp pn pg u.2.1) := by
  obtain ⟨hnp, hcr, hgr, hpl⟩ := hYI
  obtain ⟨hpn, hpw, hiq⟩ := hpl i hi
  obtain ⟨⟨hp3, hp4, hp5⟩, hp6, hn1, hn2, hn3⟩ := id hpn
  have hws := wset_rng (pn i)
  refine z_startW (cc := cL_ways) (maxL := 4) (ret := some .int) (hh := [(0, 9, 12, 13)]) (own := RL) (by decide) rfl rfl (Nat.le_of_ble_eq_true rfl) [(0, .ref (ad (4, 0))), (1, .int (zI i)), (2, .ref (ad (18, 0)))] rfl ?_
  intro pp_ ee s mm below meth cc A0 H ls hX hA0 htab hx hb hr hml hts hown hlocks hK hF hI hKA hS hA hl
  have CF : CallFix pp_ mm cc cL_ways 4 s ([.ref (ad (4, 0)), .int (zI i), .ref (ad (18, 0))] : List Value).toArray wsL_ways RL := ⟨hx, hb, hml, hown, hts⟩
  refine lv_aload_n hx hb dL_ways_0 rfl (lv_at hl 2 rfl) ?_
  refine z_iconst hx hb dL_ways_1 ?_
  refine lv_aload_n hx hb dL_ways_2 rfl (lv_at hl 0 rfl) ?_
  refine lv_iload_n hx hb dL_ways_3 rfl (lv_at hl 1 rfl) ?_
  have hRc := zf_sub hF [(4, 0), (6, 0), (2, i)] (List.forall_mem_cons.mpr ⟨zKf 4 rfl rfl, (List.forall_mem_cons.mpr ⟨zKf 6 rfl rfl, (List.forall_mem_cons.mpr ⟨zK2 hi, (fun _ h => absurd h List.not_mem_nil)⟩)⟩)⟩) (wc := [((ad (4, 0)), .inr (4, [.ref (ad (5, 0)), .ref (ad (6, 0)), .int (zI np), .ref (ad (7, 0)), .ref (ad (8, 0)), .ref (ad (9, 0)), .ref (ad (10, 0))])), ((ad (6, 0)), .inl (cP, 8, .inr (.inr (.inr (.inr (fun k : Nat => pg (k : Int))))))), ((ad (2, i)), .inr (1, [.int (zI (pp i)), .int (zI (pn i)), .int (zI (zInv (pp i) (pn i))), .int (zI (wset (pn i))), .int (zI (zGn (pn i))), .ref (ad (3, i))]))]) rfl
  refine zf_call (wc := []) (va_runV (As := [.int (zI i)]) (rest := [.int (zI 0), .ref (ad (18, 0))]) CF (c_X5_ways_ok l D cI cW cP (ad (4, 0)) (ad (5, 0)) (ad (6, 0)) np (ad (7, 0)) (ad (8, 0)) (ad (9, 0)) (ad (10, 0)) pg i (ad (2, i)) (pp i) (pn i) (ad (3, i)) (by first | omega | assumption) (by exact hiq) H.size) (cwV 1 hts gL_ways_X5_ways rfl rfl rfl (by decide +kernel) ⟨Nat.le_of_ble_eq_true rfl, Nat.le_of_ble_eq_true rfl⟩) (z_preV (va_recv hK hRc (ci := 4) (q0 := 0) rfl rfl) z_nilP (z_nilD (A := zFr (zYK np) (zY cI cW cP cJ ad ar c np pp pn pg o) s.heap.size)) hRc z_noX (hK.sub (tys' := [(cI, .int), (cW, .object RX3), (cP, .object RX2)]) [0, 1, 2] rfl)) rfl rfl hl.1 rfl (lv_room (Nat.le_of_ble_eq_true rfl)) dL_ways_4 ⟨Nat.le_of_ble_eq_true rfl, Nat.le_of_ble_eq_true rfl⟩) hF hI hKA hS hA [] [] (fun _ h => absurd h List.not_mem_nil) rfl (fun _ => zYK np) (fun _ => zY cI cW cP cJ ad ar c np pp pn pg o) (fun _ _ => rfl) (fun _ _ k hk => Or.inr ⟨hk, List.not_mem_nil, rfl⟩) (cells' := 0) (slots' := 0) rfl rfl (fun u_ H locs hp_ hF hI hKA hS => ?_)
  have hrg_ : -2147483648 ≤ wset (pn i) ∧ wset (pn i) ≤ 2147483647 := by omega
  refine z_i2l hx hb dL_ways_7 hrg_ ?_
  refine zw_last hx hb hK hF hI hKA hS (ko := (18, 0)) (zKf 18 rfl rfl) (v := wset (pn i)) rfl 3 rfl dL_ways_8 (zY cI cW cP cJ ad ar c np pp pn pg (vp_updL o 0 (zL (wset (pn i))))) (fun k hk hne => zY_out hk hne) rfl (fun H locs hF hI hKA hS => ?_)
  refine lv_goto (tgt := 15) hx hb dL_ways_9 (by decide) ?_
  refine z_iconst hx hb dL_ways_15 ?_
  refine W.widen (k := 2) (n := 70) (Nat.le_of_ble_eq_true rfl) (Nat.le_of_ble_eq_true rfl) ?_
  have hv_e : wset (pn i) = wset (pn i) := by rfl
  rw [hv_e] at hrg_
  have hv_0 : (vp_updL o 0 (zL (wset (pn i)))) 0 = zL (wset (pn i)) := (show vp_updL o 0 (zL (wset (pn i))) 0 = zL (wset (pn i)) from if_pos rfl).trans (congrArg zL hv_e)
  exact zw_iret hx hb hr hlocks (0, vp_updL o 0 (zL (wset (pn i))), c, ar) rfl (zWp_ro hv_0 hrg_ (fun r => rfl) (fun j => rfl)) hF hI hKA hS dL_ways_16

set_option maxHeartbeats 4000000 in
set_option maxRecDepth 100000 in
theorem w_forward_e1a (l : Launch) (hl9 : l.stackTraces = false) (D : va_G) (cI cW cP cJ : ClassId) (ad : zk → Nat) (ar : zk → Int → Int) (c : Int → Int) (np : Int) (pp pn : Int → Int) (pg : Int → Option Nat) (o : Nat → Int64) (i : Int) (a : Int) (w : Int) (hYI : zYI ad ar c np pp pn pg) (ha_i : -2147483648 ≤ i ∧ i ≤ 2147483647) (ha_a : -2147483648 ≤ a ∧ a ≤ 2147483647) (ha_w : -2147483648 ≤ w ∧ w ≤ 2147483647) (hi : ¬ (0 ≤ i ∧ i < np)) : zWC l yL_forward wsL_forward D [(cI, .int), (cW, .object RX3), (cP, .object RX2), (cJ, .long)] (zYK np) (zY cI cW cP cJ ad ar c np pp pn pg o) [.ref (ad (4, 0)), .int (zI i), .int (zI a), .int (zI w), .ref (ad (18, 0))] (S := Int × (Nat → Int64) × (Int → Int) × (zk → Int → Int)) (zWp 1 (vFw (pp i) (pn i) (fun j => zG ar c a j % pp i) 0) True c ar a (pn i) (vFw (pp i) (pn i) (fun j => zG ar c a j % pp i))) (fun u => some (.int (zI u.1))) (fun _ => zYK np) (fun u => zY cI cW cP cJ ad u.2.2.2 u.2.2.1 np pp pn pg u.2.1) := by
  obtain ⟨hnp, hcr, hgr, hpl⟩ := hYI
  refine z_startW (cc := cL_forward) (maxL := 6) (ret := some .int) (hh := [(0, 12, 15, 13), (0, 12, 19, 15), (0, 12, 23, 17)]) (own := RL) (by decide) rfl rfl (Nat.le_of_ble_eq_true rfl) [(0, .ref (ad (4, 0))), (1, .int (zI i)), (2, .int (zI a)), (3, .int (zI w)), (4, .ref (ad (18, 0)))] rfl ?_
  intro pp_ ee s mm below meth cc A0 H ls hX hA0 htab hx hb hr hml hts hown hlocks hK hF hI hKA hS hA hl
  have CF : CallFix pp_ mm cc cL_forward 6 s ([.ref (ad (4, 0)), .int (zI i), .int (zI a), .int (zI w), .ref (ad (18, 0))] : List Value).toArray wsL_forward RL := ⟨hx, hb, hml, hown, hts⟩
  refine lv_aload hx hb dL_forward_0 (lv_at hl 4 rfl) ?_
  refine z_iconst hx hb dL_forward_2 ?_
  refine lv_aload_n hx hb dL_forward_3 rfl (lv_at hl 0 rfl) ?_
  refine lv_iload_n hx hb dL_forward_4 rfl (lv_at hl 1 rfl) ?_
  refine lv_iload_n hx hb dL_forward_5 rfl (lv_at hl 2 rfl) ?_
  refine lv_iload_n hx hb dL_forward_6 rfl (lv_at hl 3 rfl) ?_
  have hRc := zf_sub hF [(4, 0)] (List.forall_mem_cons.mpr ⟨zKf 4 rfl rfl, (fun _ h => absurd h List.not_mem_nil)⟩) (wc := [((ad (4, 0)), .inr (4, [.ref (ad (5, 0)), .ref (ad (6, 0)), .int (zI np), .ref (ad (7, 0)), .ref (ad (8, 0)), .ref (ad (9, 0)), .ref (ad (10, 0))]))]) rfl
  refine zw_catch (E := "java/lang/IndexOutOfBoundsException") (name := "java/lang/IndexOutOfBoundsException") (own := RL) (vx_runV (As := [.int (zI i), .int (zI a), .int (zI w)]) (rest := [.int (zI 0), .ref (ad (18, 0))]) CF (x_X5_forward_1a l hl9 D cI cW cP (ad (4, 0)) (ad (5, 0)) (ad (6, 0)) np (ad (7, 0)) (ad (8, 0)) (ad (9, 0)) (ad (10, 0)) i a w (by first | omega | assumption) (by first | omega | assumption) (by first | omega | assumption) A0 H.size) (cwV 3 hts gL_forward_X5_forward rfl rfl rfl (by decide +kernel) ⟨Nat.le_of_ble_eq_true rfl, Nat.le_of_ble_eq_true rfl⟩) (zw_preTV (va_recv hK hRc (ci := 4) (q0 := 0) rfl rfl) hX hA0 hA hS hRc (hK.sub (tys' := [(cI, .int), (cW, .object RX3), (cP, .object RX2)]) [0, 1, 2] rfl)) rfl rfl hl.1 rfl (lv_room (Nat.le_of_ble_eq_true rfl)) dL_forward_7 ⟨Nat.le_of_ble_eq_true rfl, Nat.le_of_ble_eq_true rfl⟩) hF hS hA hown [] ⟨0, 12, 15, 13⟩ [⟨0, 12, 19, 15⟩, ⟨0, 12, 23, 17⟩] (htab.trans rfl) (fun _ h => absurd h List.not_mem_nil) rfl (by decide) (hts (.classLink RL 13 "java/lang/IndexOutOfBoundsException") (by decide +kernel)) (z_cast (hts (.initialized "java/lang/IndexOutOfBoundsException") (by decide +kernel))) (fun q H locs hF hS => ?_)
  refine lv_astore (lv' := [(5, .ref q), (0, .ref (ad (4, 0))), (1, .int (zI i)), (2, .int (zI a)), (3, .int (zI w)), (4, .ref (ad (18, 0)))]) hx hb dL_forward_15 hl (by decide) rfl (fun ls hl => ?_)
  have hl := lv_sub hl [1, 2, 3, 4, 5, 0] rfl
  have hl : lv_has ls 6 [(0, .ref (ad (4, 0))), (1, .int (zI i)), (2, .int (zI a)), (3, .int (zI w)), (4, .ref (ad (18, 0))), (5, .ref q)] := hl
  refine z_iconst hx hb dL_forward_17 ?_
  refine W.widen (k := 2) (n := 70) (Nat.le_of_ble_eq_true rfl) (Nat.le_of_ble_eq_true rfl) ?_
  exact zw_iret hx hb hr hlocks (1, o, c, ar) rfl (zWp_err (by decide)) hF hI hKA hS dL_forward_18

set_option maxHeartbeats 4000000 in
set_option maxRecDepth 100000 in
theorem w_forward_e1b (l : Launch) (hl9 : l.stackTraces = false) (D : va_G) (cI cW cP cJ : ClassId) (ad : zk → Nat) (ar : zk → Int → Int) (c : Int → Int) (np : Int) (pp pn : Int → Int) (pg : Int → Option Nat) (o : Nat → Int64) (i : Int) (a : Int) (w : Int) (hYI : zYI ad ar c np pp pn pg) (ha_a : -2147483648 ≤ a ∧ a ≤ 2147483647) (ha_w : -2147483648 ≤ w ∧ w ≤ 2147483647) (hi : 0 ≤ i ∧ i < np) (hba : ¬ (0 ≤ a ∧ a < 4)) : zWC l yL_forward wsL_forward D [(cI, .int), (cW, .object RX3), (cP, .object RX2), (cJ, .long)] (zYK np) (zY cI cW cP cJ ad ar c np pp pn pg o) [.ref (ad (4, 0)), .int (zI i), .int (zI a), .int (zI w), .ref (ad (18, 0))] (S := Int × (Nat → Int64) × (Int → Int) × (zk → Int → Int)) (zWp 1 (vFw (pp i) (pn i) (fun j => zG ar c a j % pp i) 0) True c ar a (pn i) (vFw (pp i) (pn i) (fun j => zG ar c a j % pp i))) (fun u => some (.int (zI u.1))) (fun _ => zYK np) (fun u => zY cI cW cP cJ ad u.2.2.2 u.2.2.1 np pp pn pg u.2.1) := by
  obtain ⟨hnp, hcr, hgr, hpl⟩ := hYI
  obtain ⟨hpn, hpw, hiq⟩ := hpl i hi
  obtain ⟨⟨hp3, hp4, hp5⟩, hp6, hn1, hn2, hn3⟩ := id hpn
  refine z_startW (cc := cL_forward) (maxL := 6) (ret := some .int) (hh := [(0, 12, 15, 13), (0, 12, 19, 15), (0, 12, 23, 17)]) (own := RL) (by decide) rfl rfl (Nat.le_of_ble_eq_true rfl) [(0, .ref (ad (4, 0))), (1, .int (zI i)), (2, .int (zI a)), (3, .int (zI w)), (4, .ref (ad (18, 0)))] rfl ?_
  intro pp_ ee s mm below meth cc A0 H ls hX hA0 htab hx hb hr hml hts hown hlocks hK hF hI hKA hS hA hl
  have CF : CallFix pp_ mm cc cL_forward 6 s ([.ref (ad (4, 0)), .int (zI i), .int (zI a), .int (zI w), .ref (ad (18, 0))] : List Value).toArray wsL_forward RL := ⟨hx, hb, hml, hown, hts⟩
  refine lv_aload hx hb dL_forward_0 (lv_at hl 4 rfl) ?_
  refine z_iconst hx hb dL_forward_2 ?_
  refine lv_aload_n hx hb dL_forward_3 rfl (lv_at hl 0 rfl) ?_
  refine lv_iload_n hx hb dL_forward_4 rfl (lv_at hl 1 rfl) ?_
  refine lv_iload_n hx hb dL_forward_5 rfl (lv_at hl 2 rfl) ?_
  refine lv_iload_n hx hb dL_forward_6 rfl (lv_at hl 3 rfl) ?_
  have hRc := zf_sub hF [(4, 0), (6, 0)] (List.forall_mem_cons.mpr ⟨zKf 4 rfl rfl, (List.forall_mem_cons.mpr ⟨zKf 6 rfl rfl, (fun _ h => absurd h List.not_mem_nil)⟩)⟩) (wc := [((ad (4, 0)), .inr (4, [.ref (ad (5, 0)), .ref (ad (6, 0)), .int (zI np), .ref (ad (7, 0)), .ref (ad (8, 0)), .ref (ad (9, 0)), .ref (ad (10, 0))])), ((ad (6, 0)), .inl (cP, 8, .inr (.inr (.inr (.inr (fun k : Nat => pg (k : Int)))))))]) rfl
  refine zw_catch (E := "java/lang/IndexOutOfBoundsException") (name := "java/lang/IndexOutOfBoundsException") (own := RL) (vx_runV (As := [.int (zI i), .int (zI a), .int (zI w)]) (rest := [.int (zI 0), .ref (ad (18, 0))]) CF (x_X5_forward_1b l hl9 D cI cW cP (ad (4, 0)) (ad (5, 0)) (ad (6, 0)) np (ad (7, 0)) (ad (8, 0)) (ad (9, 0)) (ad (10, 0)) pg i a w (ad (2, i)) (by first | omega | assumption) (by exact hiq) (by first | omega | assumption) (by first | omega | assumption) A0 H.size) (cwV 3 hts gL_forward_X5_forward rfl rfl rfl (by decide +kernel) ⟨Nat.le_of_ble_eq_true rfl, Nat.le_of_ble_eq_true rfl⟩) (zw_preTV (va_recv hK hRc (ci := 4) (q0 := 0) rfl rfl) hX hA0 hA hS hRc (hK.sub (tys' := [(cI, .int), (cW, .object RX3), (cP, .object RX2)]) [0, 1, 2] rfl)) rfl rfl hl.1 rfl (lv_room (Nat.le_of_ble_eq_true rfl)) dL_forward_7 ⟨Nat.le_of_ble_eq_true rfl, Nat.le_of_ble_eq_true rfl⟩) hF hS hA hown [] ⟨0, 12, 15, 13⟩ [⟨0, 12, 19, 15⟩, ⟨0, 12, 23, 17⟩] (htab.trans rfl) (fun _ h => absurd h List.not_mem_nil) rfl (by decide) (hts (.classLink RL 13 "java/lang/IndexOutOfBoundsException") (by decide +kernel)) (z_cast (hts (.initialized "java/lang/IndexOutOfBoundsException") (by decide +kernel))) (fun q H locs hF hS => ?_)
  refine lv_astore (lv' := [(5, .ref q), (0, .ref (ad (4, 0))), (1, .int (zI i)), (2, .int (zI a)), (3, .int (zI w)), (4, .ref (ad (18, 0)))]) hx hb dL_forward_15 hl (by decide) rfl (fun ls hl => ?_)
  have hl := lv_sub hl [1, 2, 3, 4, 5, 0] rfl
  have hl : lv_has ls 6 [(0, .ref (ad (4, 0))), (1, .int (zI i)), (2, .int (zI a)), (3, .int (zI w)), (4, .ref (ad (18, 0))), (5, .ref q)] := hl
  refine z_iconst hx hb dL_forward_17 ?_
  refine W.widen (k := 2) (n := 70) (Nat.le_of_ble_eq_true rfl) (Nat.le_of_ble_eq_true rfl) ?_
  exact zw_iret hx hb hr hlocks (1, o, c, ar) rfl (zWp_err (by decide)) hF hI hKA hS dL_forward_18

set_option maxHeartbeats 4000000 in
set_option maxRecDepth 100000 in
theorem w_forward_e2 (l : Launch) (hl9 : l.stackTraces = false) (D : va_G) (cI cW cP cJ : ClassId) (ad : zk → Nat) (ar : zk → Int → Int) (c : Int → Int) (np : Int) (pp pn : Int → Int) (pg : Int → Option Nat) (o : Nat → Int64) (i : Int) (a : Int) (w : Int) (hYI : zYI ad ar c np pp pn pg) (ha_w : -2147483648 ≤ w ∧ w ≤ 2147483647) (hi : 0 ≤ i ∧ i < np) (hra : 0 ≤ a ∧ a < 4) (hww : ¬ (0 ≤ w ∧ w ≤ 4 ∧ wset (pn i) / 2 ^ w.toNat % 2 = 1)) : zWC l yL_forward wsL_forward D [(cI, .int), (cW, .object RX3), (cP, .object RX2), (cJ, .long)] (zYK np) (zY cI cW cP cJ ad ar c np pp pn pg o) [.ref (ad (4, 0)), .int (zI i), .int (zI a), .int (zI w), .ref (ad (18, 0))] (S := Int × (Nat → Int64) × (Int → Int) × (zk → Int → Int)) (zWp 2 (vFw (pp i) (pn i) (fun j => zG ar c a j % pp i) 0) True c ar a (pn i) (vFw (pp i) (pn i) (fun j => zG ar c a j % pp i))) (fun u => some (.int (zI u.1))) (fun _ => zYK np) (fun u => zY cI cW cP cJ ad u.2.2.2 u.2.2.1 np pp pn pg u.2.1) := by
  obtain ⟨hnp, hcr, hgr, hpl⟩ := hYI
  have hca_ := hcr a hra
  obtain ⟨hpn, hpw, hiq⟩ := hpl i hi
  obtain ⟨⟨hp3, hp4, hp5⟩, hp6, hn1, hn2, hn3⟩ := id hpn
  refine z_startW (cc := cL_forward) (maxL := 6) (ret := some .int) (hh := [(0, 12, 15, 13), (0, 12, 19, 15), (0, 12, 23, 17)]) (own := RL) (by decide) rfl rfl (Nat.le_of_ble_eq_true rfl) [(0, .ref (ad (4, 0))), (1, .int (zI i)), (2, .int (zI a)), (3, .int (zI w)), (4, .ref (ad (18, 0)))] rfl ?_
  intro pp_ ee s mm below meth cc A0 H ls hX hA0 htab hx hb hr hml hts hown hlocks hK hF hI hKA hS hA hl
  have CF : CallFix pp_ mm cc cL_forward 6 s ([.ref (ad (4, 0)), .int (zI i), .int (zI a), .int (zI w), .ref (ad (18, 0))] : List Value).toArray wsL_forward RL := ⟨hx, hb, hml, hown, hts⟩
  refine lv_aload hx hb dL_forward_0 (lv_at hl 4 rfl) ?_
  refine z_iconst hx hb dL_forward_2 ?_
  refine lv_aload_n hx hb dL_forward_3 rfl (lv_at hl 0 rfl) ?_
  refine lv_iload_n hx hb dL_forward_4 rfl (lv_at hl 1 rfl) ?_
  refine lv_iload_n hx hb dL_forward_5 rfl (lv_at hl 2 rfl) ?_
  refine lv_iload_n hx hb dL_forward_6 rfl (lv_at hl 3 rfl) ?_
  have hRc := zf_sub hF [(4, 0), (5, 0), (6, 0), (2, i)] (List.forall_mem_cons.mpr ⟨zKf 4 rfl rfl, (List.forall_mem_cons.mpr ⟨zKf 5 rfl rfl, (List.forall_mem_cons.mpr ⟨zKf 6 rfl rfl, (List.forall_mem_cons.mpr ⟨zK2 hi, (fun _ h => absurd h List.not_mem_nil)⟩)⟩)⟩)⟩) (wc := [((ad (4, 0)), .inr (4, [.ref (ad (5, 0)), .ref (ad (6, 0)), .int (zI np), .ref (ad (7, 0)), .ref (ad (8, 0)), .ref (ad (9, 0)), .ref (ad (10, 0))])), ((ad (5, 0)), .inl (cW, 4, .inr (.inr (.inr (.inr (fun k : Nat => (zRg ad) (k : Int))))))), ((ad (6, 0)), .inl (cP, 8, .inr (.inr (.inr (.inr (fun k : Nat => pg (k : Int))))))), ((ad (2, i)), .inr (1, [.int (zI (pp i)), .int (zI (pn i)), .int (zI (zInv (pp i) (pn i))), .int (zI (wset (pn i))), .int (zI (zGn (pn i))), .ref (ad (3, i))]))]) rfl
  refine zw_catch (E := "java/lang/IllegalArgumentException") (name := "java/lang/IllegalArgumentException") (own := RL) (vx_runV (As := [.int (zI i), .int (zI a), .int (zI w)]) (rest := [.int (zI 0), .ref (ad (18, 0))]) CF (x_X5_forward_2 l hl9 D cI cW cP (ad (4, 0)) (ad (5, 0)) (ad (6, 0)) np (ad (7, 0)) (ad (8, 0)) (ad (9, 0)) (ad (10, 0)) (zRg ad) pg i a w (ad (2, i)) (pp i) (pn i) (ad (3, i)) (ad (0, a)) (by first | omega | assumption) (by exact hiq) (by first | omega | assumption) (by exact zRg_at hra) (by first | omega | assumption) (by first | omega | assumption) (by first | omega | assumption) A0 H.size) (cwV 3 hts gL_forward_X5_forward rfl rfl rfl (by decide +kernel) ⟨Nat.le_of_ble_eq_true rfl, Nat.le_of_ble_eq_true rfl⟩) (zw_preTV (va_recv hK hRc (ci := 4) (q0 := 0) rfl rfl) hX hA0 hA hS hRc (hK.sub (tys' := [(cI, .int), (cW, .object RX3), (cP, .object RX2)]) [0, 1, 2] rfl)) rfl rfl hl.1 rfl (lv_room (Nat.le_of_ble_eq_true rfl)) dL_forward_7 ⟨Nat.le_of_ble_eq_true rfl, Nat.le_of_ble_eq_true rfl⟩) hF hS hA hown [⟨0, 12, 15, 13⟩] ⟨0, 12, 19, 15⟩ [⟨0, 12, 23, 17⟩] (htab.trans rfl) (List.forall_mem_cons.mpr ⟨Or.inr ⟨by decide, _, hts (.classLink RL 13 "java/lang/IndexOutOfBoundsException") (by decide +kernel), hX.2.2.2.1⟩, (fun _ h => absurd h List.not_mem_nil)⟩) rfl (by decide) (hts (.classLink RL 15 "java/lang/IllegalArgumentException") (by decide +kernel)) (z_cast (hts (.initialized "java/lang/IllegalArgumentException") (by decide +kernel))) (fun q H locs hF hS => ?_)
  refine lv_astore (lv' := [(5, .ref q), (0, .ref (ad (4, 0))), (1, .int (zI i)), (2, .int (zI a)), (3, .int (zI w)), (4, .ref (ad (18, 0)))]) hx hb dL_forward_19 hl (by decide) rfl (fun ls hl => ?_)
  have hl := lv_sub hl [1, 2, 3, 4, 5, 0] rfl
  have hl : lv_has ls 6 [(0, .ref (ad (4, 0))), (1, .int (zI i)), (2, .int (zI a)), (3, .int (zI w)), (4, .ref (ad (18, 0))), (5, .ref q)] := hl
  refine z_iconst hx hb dL_forward_21 ?_
  refine W.widen (k := 2) (n := 70) (Nat.le_of_ble_eq_true rfl) (Nat.le_of_ble_eq_true rfl) ?_
  exact zw_iret hx hb hr hlocks (2, o, c, ar) rfl (zWp_err (by decide)) hF hI hKA hS dL_forward_22

set_option maxHeartbeats 4000000 in
set_option maxRecDepth 100000 in
theorem w_forward_e3 (l : Launch) (hl9 : l.stackTraces = false) (D : va_G) (cI cW cP cJ : ClassId) (ad : zk → Nat) (ar : zk → Int → Int) (c : Int → Int) (np : Int) (pp pn : Int → Int) (pg : Int → Option Nat) (o : Nat → Int64) (i : Int) (a : Int) (w : Int) (hYI : zYI ad ar c np pp pn pg) (hi : 0 ≤ i ∧ i < np) (hra : 0 ≤ a ∧ a < 4) (hw4 : 0 ≤ w ∧ w ≤ 4) (hww : wset (pn i) / 2 ^ w.toNat % 2 = 1) (hfit : pn i < c a) : zWC l yL_forward wsL_forward D [(cI, .int), (cW, .object RX3), (cP, .object RX2), (cJ, .long)] (zYK np) (zY cI cW cP cJ ad ar c np pp pn pg o) [.ref (ad (4, 0)), .int (zI i), .int (zI a), .int (zI w), .ref (ad (18, 0))] (S := Int × (Nat → Int64) × (Int → Int) × (zk → Int → Int)) (zWp 3 (vFw (pp i) (pn i) (fun j => zG ar c a j % pp i) 0) True c ar a (pn i) (vFw (pp i) (pn i) (fun j => zG ar c a j % pp i))) (fun u => some (.int (zI u.1))) (fun _ => zYK np) (fun u => zY cI cW cP cJ ad u.2.2.2 u.2.2.1 np pp pn pg u.2.1) := by
  obtain ⟨hnp, hcr, hgr, hpl⟩ := hYI
  have hca_ := hcr a hra
  obtain ⟨hpn, hpw, hiq⟩ := hpl i hi
  obtain ⟨⟨hp3, hp4, hp5⟩, hp6, hn1, hn2, hn3⟩ := id hpn
  refine z_startW (cc := cL_forward) (maxL := 6) (ret := some .int) (hh := [(0, 12, 15, 13), (0, 12, 19, 15), (0, 12, 23, 17)]) (own := RL) (by decide) rfl rfl (Nat.le_of_ble_eq_true rfl) [(0, .ref (ad (4, 0))), (1, .int (zI i)), (2, .int (zI a)), (3, .int (zI w)), (4, .ref (ad (18, 0)))] rfl ?_
  intro pp_ ee s mm below meth cc A0 H ls hX hA0 htab hx hb hr hml hts hown hlocks hK hF hI hKA hS hA hl
  have CF : CallFix pp_ mm cc cL_forward 6 s ([.ref (ad (4, 0)), .int (zI i), .int (zI a), .int (zI w), .ref (ad (18, 0))] : List Value).toArray wsL_forward RL := ⟨hx, hb, hml, hown, hts⟩
  refine lv_aload hx hb dL_forward_0 (lv_at hl 4 rfl) ?_
  refine z_iconst hx hb dL_forward_2 ?_
  refine lv_aload_n hx hb dL_forward_3 rfl (lv_at hl 0 rfl) ?_
  refine lv_iload_n hx hb dL_forward_4 rfl (lv_at hl 1 rfl) ?_
  refine lv_iload_n hx hb dL_forward_5 rfl (lv_at hl 2 rfl) ?_
  refine lv_iload_n hx hb dL_forward_6 rfl (lv_at hl 3 rfl) ?_
  have hRc := zf_sub hF [(4, 0), (5, 0), (6, 0), (2, i), (0, a)] (List.forall_mem_cons.mpr ⟨zKf 4 rfl rfl, (List.forall_mem_cons.mpr ⟨zKf 5 rfl rfl, (List.forall_mem_cons.mpr ⟨zKf 6 rfl rfl, (List.forall_mem_cons.mpr ⟨zK2 hi, (List.forall_mem_cons.mpr ⟨zK0 hra, (fun _ h => absurd h List.not_mem_nil)⟩)⟩)⟩)⟩)⟩) (wc := [((ad (4, 0)), .inr (4, [.ref (ad (5, 0)), .ref (ad (6, 0)), .int (zI np), .ref (ad (7, 0)), .ref (ad (8, 0)), .ref (ad (9, 0)), .ref (ad (10, 0))])), ((ad (5, 0)), .inl (cW, 4, .inr (.inr (.inr (.inr (fun k : Nat => (zRg ad) (k : Int))))))), ((ad (6, 0)), .inl (cP, 8, .inr (.inr (.inr (.inr (fun k : Nat => pg (k : Int))))))), ((ad (2, i)), .inr (1, [.int (zI (pp i)), .int (zI (pn i)), .int (zI (zInv (pp i) (pn i))), .int (zI (wset (pn i))), .int (zI (zGn (pn i))), .ref (ad (3, i))])), ((ad (0, a)), .inr (2, [.ref (ad (1, a)), .int (zI (c a))]))]) rfl
  refine zw_catch (E := "java/lang/IllegalStateException") (name := "java/lang/IllegalStateException") (own := RL) (vx_runV (As := [.int (zI i), .int (zI a), .int (zI w)]) (rest := [.int (zI 0), .ref (ad (18, 0))]) CF (x_X5_forward_3 l hl9 D cI cW cP (ad (4, 0)) (ad (5, 0)) (ad (6, 0)) np (ad (7, 0)) (ad (8, 0)) (ad (9, 0)) (ad (10, 0)) (zRg ad) pg i a w (ad (2, i)) (pp i) (pn i) (ad (3, i)) (ad (0, a)) (ad (1, a)) (c a) (by first | omega | assumption) (by exact hiq) (by first | omega | assumption) (by exact zRg_at hra) (by first | omega | assumption) (by first | omega | assumption) (by first | omega | assumption) A0 H.size) (cwV 3 hts gL_forward_X5_forward rfl rfl rfl (by decide +kernel) ⟨Nat.le_of_ble_eq_true rfl, Nat.le_of_ble_eq_true rfl⟩) (zw_preTV (va_recv hK hRc (ci := 4) (q0 := 0) rfl rfl) hX hA0 hA hS hRc (hK.sub (tys' := [(cI, .int), (cW, .object RX3), (cP, .object RX2)]) [0, 1, 2] rfl)) rfl rfl hl.1 rfl (lv_room (Nat.le_of_ble_eq_true rfl)) dL_forward_7 ⟨Nat.le_of_ble_eq_true rfl, Nat.le_of_ble_eq_true rfl⟩) hF hS hA hown [⟨0, 12, 15, 13⟩, ⟨0, 12, 19, 15⟩] ⟨0, 12, 23, 17⟩ [] (htab.trans rfl) (List.forall_mem_cons.mpr ⟨Or.inr ⟨by decide, _, hts (.classLink RL 13 "java/lang/IndexOutOfBoundsException") (by decide +kernel), hX.2.2.2.2.1⟩, (List.forall_mem_cons.mpr ⟨Or.inr ⟨by decide, _, hts (.classLink RL 15 "java/lang/IllegalArgumentException") (by decide +kernel), hX.2.2.2.2.2.1⟩, (fun _ h => absurd h List.not_mem_nil)⟩)⟩) rfl (by decide) (hts (.classLink RL 17 "java/lang/IllegalStateException") (by decide +kernel)) (z_cast (hts (.initialized "java/lang/IllegalStateException") (by decide +kernel))) (fun q H locs hF hS => ?_)
  refine lv_astore (lv' := [(5, .ref q), (0, .ref (ad (4, 0))), (1, .int (zI i)), (2, .int (zI a)), (3, .int (zI w)), (4, .ref (ad (18, 0)))]) hx hb dL_forward_23 hl (by decide) rfl (fun ls hl => ?_)
  have hl := lv_sub hl [1, 2, 3, 4, 5, 0] rfl
  have hl : lv_has ls 6 [(0, .ref (ad (4, 0))), (1, .int (zI i)), (2, .int (zI a)), (3, .int (zI w)), (4, .ref (ad (18, 0))), (5, .ref q)] := hl
  refine z_iconst hx hb dL_forward_25 ?_
  refine W.widen (k := 2) (n := 70) (Nat.le_of_ble_eq_true rfl) (Nat.le_of_ble_eq_true rfl) ?_
  exact zw_iret hx hb hr hlocks (3, o, c, ar) rfl (zWp_err (by decide)) hF hI hKA hS dL_forward_26

set_option maxHeartbeats 4000000 in
set_option maxRecDepth 100000 in
theorem w_forward_ok (l : Launch) (hl9 : l.stackTraces = false) (D : va_G) (cI cW cP cJ : ClassId) (ad : zk → Nat) (ar : zk → Int → Int) (c : Int → Int) (np : Int) (pp pn : Int → Int) (pg : Int → Option Nat) (o : Nat → Int64) (i : Int) (a : Int) (w : Int) (hYI : zYI ad ar c np pp pn pg) (hi : 0 ≤ i ∧ i < np) (hra : 0 ≤ a ∧ a < 4) (hw4 : 0 ≤ w ∧ w ≤ 4) (hww : wset (pn i) / 2 ^ w.toNat % 2 = 1) (hfit : c a ≤ pn i) : zWC l yL_forward wsL_forward D [(cI, .int), (cW, .object RX3), (cP, .object RX2), (cJ, .long)] (zYK np) (zY cI cW cP cJ ad ar c np pp pn pg o) [.ref (ad (4, 0)), .int (zI i), .int (zI a), .int (zI w), .ref (ad (18, 0))] (S := Int × (Nat → Int64) × (Int → Int) × (zk → Int → Int)) (zWp 0 (vFw (pp i) (pn i) (fun j => zG ar c a j % pp i) 0) True c ar a (pn i) (vFw (pp i) (pn i) (fun j => zG ar c a j % pp i))) (fun u => some (.int (zI u.1))) (fun _ => zYK np) (fun u => zY cI cW cP cJ ad u.2.2.2 u.2.2.1 np pp pn pg u.2.1) := by
  obtain ⟨hnp, hcr, hgr, hpl⟩ := hYI
  have hca_ := hcr a hra
  obtain ⟨hpn, hpw, hiq⟩ := hpl i hi
  obtain ⟨⟨hp3, hp4, hp5⟩, hp6, hn1, hn2, hn3⟩ := id hpn
  have hvr := vFw_rng (p := pp i) (n := pn i) (X := (fun j => zG ar c a j % pp i)) (k := 0) (by omega)
  have hv_ : ∀ k, 0 ≤ k → _ = vFw (pp i) (pn i) (fun j => zG ar c a j % pp i) k := fun k hk => vFw_of hpn hpw hk
  refine z_startW (cc := cL_forward) (maxL := 6) (ret := some .int) (hh := [(0, 12, 15, 13), (0, 12, 19, 15), (0, 12, 23, 17)]) (own := RL) (by decide) rfl rfl (Nat.le_of_ble_eq_true rfl) [(0, .ref (ad (4, 0))), (1, .int (zI i)), (2, .int (zI a)), (3, .int (zI w)), (4, .ref (ad (18, 0)))] rfl ?_
  intro pp_ ee s mm below meth cc A0 H ls hX hA0 htab hx hb hr hml hts hown hlocks hK hF hI hKA hS hA hl
  have CF : CallFix pp_ mm cc cL_forward 6 s ([.ref (ad (4, 0)), .int (zI i), .int (zI a), .int (zI w), .ref (ad (18, 0))] : List Value).toArray wsL_forward RL := ⟨hx, hb, hml, hown, hts⟩
  refine lv_aload hx hb dL_forward_0 (lv_at hl 4 rfl) ?_
  refine z_iconst hx hb dL_forward_2 ?_
  refine lv_aload_n hx hb dL_forward_3 rfl (lv_at hl 0 rfl) ?_
  refine lv_iload_n hx hb dL_forward_4 rfl (lv_at hl 1 rfl) ?_
  refine lv_iload_n hx hb dL_forward_5 rfl (lv_at hl 2 rfl) ?_
  refine lv_iload_n hx hb dL_forward_6 rfl (lv_at hl 3 rfl) ?_
  have hRc := zf_sub hF [(4, 0), (5, 0), (6, 0), (7, 0), (2, i), (3, i)] (List.forall_mem_cons.mpr ⟨zKf 4 rfl rfl, (List.forall_mem_cons.mpr ⟨zKf 5 rfl rfl, (List.forall_mem_cons.mpr ⟨zKf 6 rfl rfl, (List.forall_mem_cons.mpr ⟨zKf 7 rfl rfl, (List.forall_mem_cons.mpr ⟨zK2 hi, (List.forall_mem_cons.mpr ⟨zK3 hi, (fun _ h => absurd h List.not_mem_nil)⟩)⟩)⟩)⟩)⟩)⟩) (wc := [((ad (4, 0)), .inr (4, [.ref (ad (5, 0)), .ref (ad (6, 0)), .int (zI np), .ref (ad (7, 0)), .ref (ad (8, 0)), .ref (ad (9, 0)), .ref (ad (10, 0))])), ((ad (5, 0)), .inl (cW, 4, .inr (.inr (.inr (.inr (fun k : Nat => (zRg ad) (k : Int))))))), ((ad (6, 0)), .inl (cP, 8, .inr (.inr (.inr (.inr (fun k : Nat => pg (k : Int))))))), ((ad (7, 0)), .inr (3, [.ref (ad (11, 0)), .ref (ad (12, 0)), .ref (ad (13, 0)), .ref (ad (14, 0)), .ref (ad (15, 0))])), ((ad (2, i)), .inr (1, [.int (zI (pp i)), .int (zI (pn i)), .int (zI (zInv (pp i) (pn i))), .int (zI (wset (pn i))), .int (zI (zGn (pn i))), .ref (ad (3, i))])), ((ad (3, i)), .inl (cI, 64, .inl (zA (ar (3, i)))))]) rfl
  have hPc := zf_sub hF [(0, a), (1, a), (9, 0), (11, 0), (12, 0), (13, 0), (14, 0), (15, 0)] (List.forall_mem_cons.mpr ⟨zK0 hra, (List.forall_mem_cons.mpr ⟨zK1 hra, (List.forall_mem_cons.mpr ⟨zKf 9 rfl rfl, (List.forall_mem_cons.mpr ⟨zKf 11 rfl rfl, (List.forall_mem_cons.mpr ⟨zKf 12 rfl rfl, (List.forall_mem_cons.mpr ⟨zKf 13 rfl rfl, (List.forall_mem_cons.mpr ⟨zKf 14 rfl rfl, (List.forall_mem_cons.mpr ⟨zKf 15 rfl rfl, (fun _ h => absurd h List.not_mem_nil)⟩)⟩)⟩)⟩)⟩)⟩)⟩)⟩) (wc := [((ad (0, a)), .inr (2, [.ref (ad (1, a)), .int (zI (c a))])), ((ad (1, a)), .inl (cI, 64, .inl (zA (ar (1, a))))), ((ad (9, 0)), .inl (cI, 64, .inl (zA (ar (9, 0))))), ((ad (11, 0)), .inl (cI, 64, .inl (zA (ar (11, 0))))), ((ad (12, 0)), .inl (cI, 64, .inl (zA (ar (12, 0))))), ((ad (13, 0)), .inl (cI, 64, .inl (zA (ar (13, 0))))), ((ad (14, 0)), .inl (cI, 64, .inl (zA (ar (14, 0))))), ((ad (15, 0)), .inl (cI, 128, .inl (zA (ar (15, 0)))))]) rfl
  have hDc := zf_subD hI hKA [(0, a), (1, a), (9, 0), (11, 0), (12, 0), (13, 0), (14, 0), (15, 0)] (List.forall_mem_cons.mpr ⟨zK0 hra, (List.forall_mem_cons.mpr ⟨zK1 hra, (List.forall_mem_cons.mpr ⟨zKf 9 rfl rfl, (List.forall_mem_cons.mpr ⟨zKf 11 rfl rfl, (List.forall_mem_cons.mpr ⟨zKf 12 rfl rfl, (List.forall_mem_cons.mpr ⟨zKf 13 rfl rfl, (List.forall_mem_cons.mpr ⟨zKf 14 rfl rfl, (List.forall_mem_cons.mpr ⟨zKf 15 rfl rfl, (fun _ h => absurd h List.not_mem_nil)⟩)⟩)⟩)⟩)⟩)⟩)⟩)⟩) (by simp) (wc := [((ad (0, a)), .inr (2, [.ref (ad (1, a)), .int (zI (c a))])), ((ad (1, a)), .inl (cI, 64, .inl (zA (ar (1, a))))), ((ad (9, 0)), .inl (cI, 64, .inl (zA (ar (9, 0))))), ((ad (11, 0)), .inl (cI, 64, .inl (zA (ar (11, 0))))), ((ad (12, 0)), .inl (cI, 64, .inl (zA (ar (12, 0))))), ((ad (13, 0)), .inl (cI, 64, .inl (zA (ar (13, 0))))), ((ad (14, 0)), .inl (cI, 64, .inl (zA (ar (14, 0))))), ((ad (15, 0)), .inl (cI, 128, .inl (zA (ar (15, 0)))))]) rfl
  have hXc := zf_dis hI [(0, a), (1, a), (9, 0), (11, 0), (12, 0), (13, 0), (14, 0), (15, 0)] [(4, 0), (5, 0), (6, 0), (7, 0), (2, i), (3, i)] (List.forall_mem_cons.mpr ⟨zK0 hra, (List.forall_mem_cons.mpr ⟨zK1 hra, (List.forall_mem_cons.mpr ⟨zKf 9 rfl rfl, (List.forall_mem_cons.mpr ⟨zKf 11 rfl rfl, (List.forall_mem_cons.mpr ⟨zKf 12 rfl rfl, (List.forall_mem_cons.mpr ⟨zKf 13 rfl rfl, (List.forall_mem_cons.mpr ⟨zKf 14 rfl rfl, (List.forall_mem_cons.mpr ⟨zKf 15 rfl rfl, (fun _ h => absurd h List.not_mem_nil)⟩)⟩)⟩)⟩)⟩)⟩)⟩)⟩) (List.forall_mem_cons.mpr ⟨zKf 4 rfl rfl, (List.forall_mem_cons.mpr ⟨zKf 5 rfl rfl, (List.forall_mem_cons.mpr ⟨zKf 6 rfl rfl, (List.forall_mem_cons.mpr ⟨zKf 7 rfl rfl, (List.forall_mem_cons.mpr ⟨zK2 hi, (List.forall_mem_cons.mpr ⟨zK3 hi, (fun _ h => absurd h List.not_mem_nil)⟩)⟩)⟩)⟩)⟩)⟩) (by simp) (wc := [((ad (0, a)), .inr (2, [.ref (ad (1, a)), .int (zI (c a))])), ((ad (1, a)), .inl (cI, 64, .inl (zA (ar (1, a))))), ((ad (9, 0)), .inl (cI, 64, .inl (zA (ar (9, 0))))), ((ad (11, 0)), .inl (cI, 64, .inl (zA (ar (11, 0))))), ((ad (12, 0)), .inl (cI, 64, .inl (zA (ar (12, 0))))), ((ad (13, 0)), .inl (cI, 64, .inl (zA (ar (13, 0))))), ((ad (14, 0)), .inl (cI, 64, .inl (zA (ar (14, 0))))), ((ad (15, 0)), .inl (cI, 128, .inl (zA (ar (15, 0)))))]) (rc := [((ad (4, 0)), .inr (4, [.ref (ad (5, 0)), .ref (ad (6, 0)), .int (zI np), .ref (ad (7, 0)), .ref (ad (8, 0)), .ref (ad (9, 0)), .ref (ad (10, 0))])), ((ad (5, 0)), .inl (cW, 4, .inr (.inr (.inr (.inr (fun k : Nat => (zRg ad) (k : Int))))))), ((ad (6, 0)), .inl (cP, 8, .inr (.inr (.inr (.inr (fun k : Nat => pg (k : Int))))))), ((ad (7, 0)), .inr (3, [.ref (ad (11, 0)), .ref (ad (12, 0)), .ref (ad (13, 0)), .ref (ad (14, 0)), .ref (ad (15, 0))])), ((ad (2, i)), .inr (1, [.int (zI (pp i)), .int (zI (pn i)), .int (zI (zInv (pp i) (pn i))), .int (zI (wset (pn i))), .int (zI (zGn (pn i))), .ref (ad (3, i))])), ((ad (3, i)), .inl (cI, 64, .inl (zA (ar (3, i)))))]) rfl rfl
  refine zf_call (wc := [((ad (0, a)), .inr (2, [.ref (ad (1, a)), .int (zI (c a))])), ((ad (1, a)), .inl (cI, 64, .inl (zA (ar (1, a))))), ((ad (9, 0)), .inl (cI, 64, .inl (zA (ar (9, 0))))), ((ad (11, 0)), .inl (cI, 64, .inl (zA (ar (11, 0))))), ((ad (12, 0)), .inl (cI, 64, .inl (zA (ar (12, 0))))), ((ad (13, 0)), .inl (cI, 64, .inl (zA (ar (13, 0))))), ((ad (14, 0)), .inl (cI, 64, .inl (zA (ar (14, 0))))), ((ad (15, 0)), .inl (cI, 128, .inl (zA (ar (15, 0)))))]) (va_runV (As := [.int (zI i), .int (zI a), .int (zI w)]) (rest := [.int (zI 0), .ref (ad (18, 0))]) CF (c_X5_forward_ok l D cI cW cP (ad (4, 0)) (ad (5, 0)) (ad (6, 0)) np (ad (7, 0)) (ad (8, 0)) (ad (9, 0)) (ad (10, 0)) (zRg ad) pg (ad (11, 0)) (ad (12, 0)) (ad (13, 0)) (ad (14, 0)) (ad (15, 0)) i a w (ad (2, i)) (pp i) (pn i) (ad (3, i)) (ar (3, i)) (ad (0, a)) (ad (1, a)) (c a) (ar (1, a)) (ar (9, 0)) (ar (11, 0)) (ar (12, 0)) (ar (13, 0)) (ar (14, 0)) (ar (15, 0)) (by first | omega | assumption) (by exact hiq) (by first | omega | assumption) (by exact zRg_at hra) (by first | omega | assumption) (by first | omega | assumption) (by first | omega | assumption) (by exact hgr a hra) (by first | omega | assumption) (by first | omega | assumption) (by first | omega | assumption) H.size) (cwV 3 hts gL_forward_X5_forward rfl rfl rfl (by decide +kernel) ⟨Nat.le_of_ble_eq_true rfl, Nat.le_of_ble_eq_true rfl⟩) (z_preV (va_recv hK hRc (ci := 4) (q0 := 0) rfl rfl) hPc hDc hRc hXc (hK.sub (tys' := [(cI, .int), (cW, .object RX3), (cP, .object RX2)]) [0, 1, 2] rfl)) rfl rfl hl.1 rfl (lv_room (Nat.le_of_ble_eq_true rfl)) dL_forward_7 ⟨Nat.le_of_ble_eq_true rfl, Nat.le_of_ble_eq_true rfl⟩) hF hI hKA hS hA [(0, a), (1, a), (9, 0), (11, 0), (12, 0), (13, 0), (14, 0), (15, 0)] [(0, a), (1, a), (9, 0), (11, 0), (12, 0), (13, 0), (14, 0), (15, 0)] (List.forall_mem_cons.mpr ⟨zK0 hra, (List.forall_mem_cons.mpr ⟨zK1 hra, (List.forall_mem_cons.mpr ⟨zKf 9 rfl rfl, (List.forall_mem_cons.mpr ⟨zKf 11 rfl rfl, (List.forall_mem_cons.mpr ⟨zKf 12 rfl rfl, (List.forall_mem_cons.mpr ⟨zKf 13 rfl rfl, (List.forall_mem_cons.mpr ⟨zKf 14 rfl rfl, (List.forall_mem_cons.mpr ⟨zKf 15 rfl rfl, (fun _ h => absurd h List.not_mem_nil)⟩)⟩)⟩)⟩)⟩)⟩)⟩)⟩) rfl (fun _ => zYK np) (fun (a2, gl2, gm2, gd2, gn_2, gs2, gc2) => zY cI cW cP cJ ad (zUA (zUA (zUA (zUA (zUA (zUA (zUA ar (1, a) a2) (9, 0) gl2) (11, 0) gm2) (12, 0) gd2) (13, 0) gn_2) (14, 0) gs2) (15, 0) gc2) (zU c a (pn i)) np pp pn pg o) (fun u hu => by
        obtain ⟨a2, gl2, gm2, gd2, gn_2, gs2, gc2⟩ := u
        show ([(ad (0, a), .inr (2, [.ref (ad (1, a)), .int (zI ((zU c a (pn i)) a))])), (ad (1, a), .inl (cI, 64, .inl (zA ((zUA (zUA (zUA (zUA (zUA (zUA (zUA ar (1, a) a2) (9, 0) gl2) (11, 0) gm2) (12, 0) gd2) (13, 0) gn_2) (14, 0) gs2) (15, 0) gc2) (1, a))))), (ad (9, 0), .inl (cI, 64, .inl (zA ((zUA (zUA (zUA (zUA (zUA (zUA (zUA ar (1, a) a2) (9, 0) gl2) (11, 0) gm2) (12, 0) gd2) (13, 0) gn_2) (14, 0) gs2) (15, 0) gc2) (9, 0))))), (ad (11, 0), .inl (cI, 64, .inl (zA ((zUA (zUA (zUA (zUA (zUA (zUA (zUA ar (1, a) a2) (9, 0) gl2) (11, 0) gm2) (12, 0) gd2) (13, 0) gn_2) (14, 0) gs2) (15, 0) gc2) (11, 0))))), (ad (12, 0), .inl (cI, 64, .inl (zA ((zUA (zUA (zUA (zUA (zUA (zUA (zUA ar (1, a) a2) (9, 0) gl2) (11, 0) gm2) (12, 0) gd2) (13, 0) gn_2) (14, 0) gs2) (15, 0) gc2) (12, 0))))), (ad (13, 0), .inl (cI, 64, .inl (zA ((zUA (zUA (zUA (zUA (zUA (zUA (zUA ar (1, a) a2) (9, 0) gl2) (11, 0) gm2) (12, 0) gd2) (13, 0) gn_2) (14, 0) gs2) (15, 0) gc2) (13, 0))))), (ad (14, 0), .inl (cI, 64, .inl (zA ((zUA (zUA (zUA (zUA (zUA (zUA (zUA ar (1, a) a2) (9, 0) gl2) (11, 0) gm2) (12, 0) gd2) (13, 0) gn_2) (14, 0) gs2) (15, 0) gc2) (14, 0))))), (ad (15, 0), .inl (cI, 128, .inl (zA ((zUA (zUA (zUA (zUA (zUA (zUA (zUA ar (1, a) a2) (9, 0) gl2) (11, 0) gm2) (12, 0) gd2) (13, 0) gn_2) (14, 0) gs2) (15, 0) gc2) (15, 0)))))] : va_W) = _
        rw [show (zU c a (pn i)) a = (pn i) from zU_s _ _ _, show (zUA (zUA (zUA (zUA (zUA (zUA (zUA ar (1, a) a2) (9, 0) gl2) (11, 0) gm2) (12, 0) gd2) (13, 0) gn_2) (14, 0) gs2) (15, 0) gc2) (1, a) = a2 from by simp [zUA], show (zUA (zUA (zUA (zUA (zUA (zUA (zUA ar (1, a) a2) (9, 0) gl2) (11, 0) gm2) (12, 0) gd2) (13, 0) gn_2) (14, 0) gs2) (15, 0) gc2) (9, 0) = gl2 from by simp [zUA], show (zUA (zUA (zUA (zUA (zUA (zUA (zUA ar (1, a) a2) (9, 0) gl2) (11, 0) gm2) (12, 0) gd2) (13, 0) gn_2) (14, 0) gs2) (15, 0) gc2) (11, 0) = gm2 from by simp [zUA], show (zUA (zUA (zUA (zUA (zUA (zUA (zUA ar (1, a) a2) (9, 0) gl2) (11, 0) gm2) (12, 0) gd2) (13, 0) gn_2) (14, 0) gs2) (15, 0) gc2) (12, 0) = gd2 from by simp [zUA], show (zUA (zUA (zUA (zUA (zUA (zUA (zUA ar (1, a) a2) (9, 0) gl2) (11, 0) gm2) (12, 0) gd2) (13, 0) gn_2) (14, 0) gs2) (15, 0) gc2) (13, 0) = gn_2 from by simp [zUA], show (zUA (zUA (zUA (zUA (zUA (zUA (zUA ar (1, a) a2) (9, 0) gl2) (11, 0) gm2) (12, 0) gd2) (13, 0) gn_2) (14, 0) gs2) (15, 0) gc2) (14, 0) = gs2 from by simp [zUA], show (zUA (zUA (zUA (zUA (zUA (zUA (zUA ar (1, a) a2) (9, 0) gl2) (11, 0) gm2) (12, 0) gd2) (13, 0) gn_2) (14, 0) gs2) (15, 0) gc2) (15, 0) = gc2 from by simp [zUA]]) (fun u hu k hk => by
        obtain ⟨a2, gl2, gm2, gd2, gn_2, gs2, gc2⟩ := u
        by_cases hm : k ∈ [(0, a), (1, a), (9, 0), (11, 0), (12, 0), (13, 0), (14, 0), (15, 0)]
        · exact Or.inl hm
        · refine Or.inr ⟨hk, hm, ?_⟩
          simp only [List.mem_cons, List.not_mem_nil, or_false, not_or] at hm
          exact zY_ext (by simp [zUA, hm]) (fun h0 => zU_n _ _ (fun h1 => hm.1 (Prod.ext h0 h1)))) (cells' := 0) (slots' := 0) rfl rfl (fun u H locs hp_ hF hI hKA hS => ?_)
  obtain ⟨a2, gl2, gm2, gd2, gn_2, gs2, gc2⟩ := u
  have hp_ : ∀ k, 0 ≤ k → k < (pn i) → a2 k = dft (pp i) (pn i) (ar (3, i)) (pn i) 1 (fun j => rowAt (ar (1, a)) (c a) j % (pp i)) k := hp_
  have hF : zFP D (zYK np) (zY cI cW cP cJ ad (zUA (zUA (zUA (zUA (zUA (zUA (zUA ar (1, a) a2) (9, 0) gl2) (11, 0) gm2) (12, 0) gd2) (13, 0) gn_2) (14, 0) gs2) (15, 0) gc2) (zU c a (pn i)) np pp pn pg o) H := hF
  have hI : zIn (zYK np) (zY cI cW cP cJ ad (zUA (zUA (zUA (zUA (zUA (zUA (zUA ar (1, a) a2) (9, 0) gl2) (11, 0) gm2) (12, 0) gd2) (13, 0) gn_2) (14, 0) gs2) (15, 0) gc2) (zU c a (pn i)) np pp pn pg o) := hI
  have hrg_ : -2147483648 ≤ dft (pp i) (pn i) (ar (3, i)) (pn i) 1 (fun j => rowAt (ar (1, a)) (c a) j % (pp i)) 0 ∧ dft (pp i) (pn i) (ar (3, i)) (pn i) 1 (fun j => rowAt (ar (1, a)) (c a) j % (pp i)) 0 ≤ 2147483647 := by rw [show dft (pp i) (pn i) (ar (3, i)) (pn i) 1 (fun j => rowAt (ar (1, a)) (c a) j % pp i) 0 = vFw (pp i) (pn i) (fun j => zG ar c a j % pp i) 0 from hv_ 0 (Int.le_refl _)]; omega
  refine z_i2l hx hb dL_forward_10 hrg_ ?_
  refine zw_last hx hb hK hF hI hKA hS (ko := (18, 0)) (zKf 18 rfl rfl) (v := dft (pp i) (pn i) (ar (3, i)) (pn i) 1 (fun j => rowAt (ar (1, a)) (c a) j % (pp i)) 0) rfl 3 rfl dL_forward_11 (zY cI cW cP cJ ad (zUA (zUA (zUA (zUA (zUA (zUA (zUA ar (1, a) a2) (9, 0) gl2) (11, 0) gm2) (12, 0) gd2) (13, 0) gn_2) (14, 0) gs2) (15, 0) gc2) (zU c a (pn i)) np pp pn pg (vp_updL o 0 (zL (dft (pp i) (pn i) (ar (3, i)) (pn i) 1 (fun j => rowAt (ar (1, a)) (c a) j % (pp i)) 0)))) (fun k hk hne => zY_out hk hne) rfl (fun H locs hF hI hKA hS => ?_)
  refine lv_goto (tgt := 27) hx hb dL_forward_12 (by decide) ?_
  refine z_iconst hx hb dL_forward_27 ?_
  refine W.widen (k := 2) (n := 70) (Nat.le_of_ble_eq_true rfl) (Nat.le_of_ble_eq_true rfl) ?_
  have hv_e : dft (pp i) (pn i) (ar (3, i)) (pn i) 1 (fun j => rowAt (ar (1, a)) (c a) j % (pp i)) 0 = vFw (pp i) (pn i) (fun j => zG ar c a j % pp i) 0 := by exact hv_ 0 (Int.le_refl _)
  rw [hv_e] at hrg_
  have hv_0 : (vp_updL o 0 (zL (dft (pp i) (pn i) (ar (3, i)) (pn i) 1 (fun j => rowAt (ar (1, a)) (c a) j % (pp i)) 0))) 0 = zL (vFw (pp i) (pn i) (fun j => zG ar c a j % pp i) 0) := (show vp_updL o 0 (zL (dft (pp i) (pn i) (ar (3, i)) (pn i) 1 (fun j => rowAt (ar (1, a)) (c a) j % (pp i)) 0)) 0 = zL (dft (pp i) (pn i) (ar (3, i)) (pn i) 1 (fun j => rowAt (ar (1, a)) (c a) j % (pp i)) 0) from if_pos rfl).trans (congrArg zL hv_e)
  have hv_1 : ∀ k, 0 ≤ k → k < pn i → (zUA (zUA (zUA (zUA (zUA (zUA (zUA ar (1, a) a2) (9, 0) gl2) (11, 0) gm2) (12, 0) gd2) (13, 0) gn_2) (14, 0) gs2) (15, 0) gc2) (1, a) k = (vFw (pp i) (pn i) (fun j => zG ar c a j % pp i)) k := by
    intro k h1 h2
    rw [show (zUA (zUA (zUA (zUA (zUA (zUA (zUA ar (1, a) a2) (9, 0) gl2) (11, 0) gm2) (12, 0) gd2) (13, 0) gn_2) (14, 0) gs2) (15, 0) gc2) (1, a) = a2 from by simp [zUA], hp_ k h1 h2]
    exact hv_ k h1
  exact zw_iret hx hb hr hlocks (0, vp_updL o 0 (zL (dft (pp i) (pn i) (ar (3, i)) (pn i) 1 (fun j => rowAt (ar (1, a)) (c a) j % (pp i)) 0)), zU c a (pn i), zUA (zUA (zUA (zUA (zUA (zUA (zUA ar (1, a) a2) (9, 0) gl2) (11, 0) gm2) (12, 0) gd2) (13, 0) gn_2) (14, 0) gs2) (15, 0) gc2) rfl (zWp_mu hv_0 hrg_ rfl hv_1 (fun r hr_ => by simp [zUA, hr_]) (fun j => by simp [zUA])) hF hI hKA hS dL_forward_28

set_option maxHeartbeats 4000000 in
set_option maxRecDepth 100000 in
theorem w_backward_e1a (l : Launch) (hl9 : l.stackTraces = false) (D : va_G) (cI cW cP cJ : ClassId) (ad : zk → Nat) (ar : zk → Int → Int) (c : Int → Int) (np : Int) (pp pn : Int → Int) (pg : Int → Option Nat) (o : Nat → Int64) (i : Int) (a : Int) (w : Int) (hYI : zYI ad ar c np pp pn pg) (ha_i : -2147483648 ≤ i ∧ i ≤ 2147483647) (ha_a : -2147483648 ≤ a ∧ a ≤ 2147483647) (ha_w : -2147483648 ≤ w ∧ w ≤ 2147483647) (hi : ¬ (0 ≤ i ∧ i < np)) : zWC l yL_backward wsL_backward D [(cI, .int), (cW, .object RX3), (cP, .object RX2), (cJ, .long)] (zYK np) (zY cI cW cP cJ ad ar c np pp pn pg o) [.ref (ad (4, 0)), .int (zI i), .int (zI a), .int (zI w), .ref (ad (18, 0))] (S := Int × (Nat → Int64) × (Int → Int) × (zk → Int → Int)) (zWp 1 (vBk (pp i) (pn i) (fun j => zG ar c a j % pp i) 0) True c ar a (pn i) (vBk (pp i) (pn i) (fun j => zG ar c a j % pp i))) (fun u => some (.int (zI u.1))) (fun _ => zYK np) (fun u => zY cI cW cP cJ ad u.2.2.2 u.2.2.1 np pp pn pg u.2.1) := by
  obtain ⟨hnp, hcr, hgr, hpl⟩ := hYI
  refine z_startW (cc := cL_backward) (maxL := 6) (ret := some .int) (hh := [(0, 12, 15, 13), (0, 12, 19, 15), (0, 12, 23, 17)]) (own := RL) (by decide) rfl rfl (Nat.le_of_ble_eq_true rfl) [(0, .ref (ad (4, 0))), (1, .int (zI i)), (2, .int (zI a)), (3, .int (zI w)), (4, .ref (ad (18, 0)))] rfl ?_
  intro pp_ ee s mm below meth cc A0 H ls hX hA0 htab hx hb hr hml hts hown hlocks hK hF hI hKA hS hA hl
  have CF : CallFix pp_ mm cc cL_backward 6 s ([.ref (ad (4, 0)), .int (zI i), .int (zI a), .int (zI w), .ref (ad (18, 0))] : List Value).toArray wsL_backward RL := ⟨hx, hb, hml, hown, hts⟩
  refine lv_aload hx hb dL_backward_0 (lv_at hl 4 rfl) ?_
  refine z_iconst hx hb dL_backward_2 ?_
  refine lv_aload_n hx hb dL_backward_3 rfl (lv_at hl 0 rfl) ?_
  refine lv_iload_n hx hb dL_backward_4 rfl (lv_at hl 1 rfl) ?_
  refine lv_iload_n hx hb dL_backward_5 rfl (lv_at hl 2 rfl) ?_
  refine lv_iload_n hx hb dL_backward_6 rfl (lv_at hl 3 rfl) ?_
  have hRc := zf_sub hF [(4, 0)] (List.forall_mem_cons.mpr ⟨zKf 4 rfl rfl, (fun _ h => absurd h List.not_mem_nil)⟩) (wc := [((ad (4, 0)), .inr (4, [.ref (ad (5, 0)), .ref (ad (6, 0)), .int (zI np), .ref (ad (7, 0)), .ref (ad (8, 0)), .ref (ad (9, 0)), .ref (ad (10, 0))]))]) rfl
  refine zw_catch (E := "java/lang/IndexOutOfBoundsException") (name := "java/lang/IndexOutOfBoundsException") (own := RL) (vx_runV (As := [.int (zI i), .int (zI a), .int (zI w)]) (rest := [.int (zI 0), .ref (ad (18, 0))]) CF (x_X5_backward_1a l hl9 D cI cW cP (ad (4, 0)) (ad (5, 0)) (ad (6, 0)) np (ad (7, 0)) (ad (8, 0)) (ad (9, 0)) (ad (10, 0)) i a w (by first | omega | assumption) (by first | omega | assumption) (by first | omega | assumption) A0 H.size) (cwV 3 hts gL_backward_X5_backward rfl rfl rfl (by decide +kernel) ⟨Nat.le_of_ble_eq_true rfl, Nat.le_of_ble_eq_true rfl⟩) (zw_preTV (va_recv hK hRc (ci := 4) (q0 := 0) rfl rfl) hX hA0 hA hS hRc (hK.sub (tys' := [(cI, .int), (cW, .object RX3), (cP, .object RX2)]) [0, 1, 2] rfl)) rfl rfl hl.1 rfl (lv_room (Nat.le_of_ble_eq_true rfl)) dL_backward_7 ⟨Nat.le_of_ble_eq_true rfl, Nat.le_of_ble_eq_true rfl⟩) hF hS hA hown [] ⟨0, 12, 15, 13⟩ [⟨0, 12, 19, 15⟩, ⟨0, 12, 23, 17⟩] (htab.trans rfl) (fun _ h => absurd h List.not_mem_nil) rfl (by decide) (hts (.classLink RL 13 "java/lang/IndexOutOfBoundsException") (by decide +kernel)) (z_cast (hts (.initialized "java/lang/IndexOutOfBoundsException") (by decide +kernel))) (fun q H locs hF hS => ?_)
  refine lv_astore (lv' := [(5, .ref q), (0, .ref (ad (4, 0))), (1, .int (zI i)), (2, .int (zI a)), (3, .int (zI w)), (4, .ref (ad (18, 0)))]) hx hb dL_backward_15 hl (by decide) rfl (fun ls hl => ?_)
  have hl := lv_sub hl [1, 2, 3, 4, 5, 0] rfl
  have hl : lv_has ls 6 [(0, .ref (ad (4, 0))), (1, .int (zI i)), (2, .int (zI a)), (3, .int (zI w)), (4, .ref (ad (18, 0))), (5, .ref q)] := hl
  refine z_iconst hx hb dL_backward_17 ?_
  refine W.widen (k := 2) (n := 70) (Nat.le_of_ble_eq_true rfl) (Nat.le_of_ble_eq_true rfl) ?_
  exact zw_iret hx hb hr hlocks (1, o, c, ar) rfl (zWp_err (by decide)) hF hI hKA hS dL_backward_18

set_option maxHeartbeats 4000000 in
set_option maxRecDepth 100000 in
theorem w_backward_e1b (l : Launch) (hl9 : l.stackTraces = false) (D : va_G) (cI cW cP cJ : ClassId) (ad : zk → Nat) (ar : zk → Int → Int) (c : Int → Int) (np : Int) (pp pn : Int → Int) (pg : Int → Option Nat) (o : Nat → Int64) (i : Int) (a : Int) (w : Int) (hYI : zYI ad ar c np pp pn pg) (ha_a : -2147483648 ≤ a ∧ a ≤ 2147483647) (ha_w : -2147483648 ≤ w ∧ w ≤ 2147483647) (hi : 0 ≤ i ∧ i < np) (hba : ¬ (0 ≤ a ∧ a < 4)) : zWC l yL_backward wsL_backward D [(cI, .int), (cW, .object RX3), (cP, .object RX2), (cJ, .long)] (zYK np) (zY cI cW cP cJ ad ar c np pp pn pg o) [.ref (ad (4, 0)), .int (zI i), .int (zI a), .int (zI w), .ref (ad (18, 0))] (S := Int × (Nat → Int64) × (Int → Int) × (zk → Int → Int)) (zWp 1 (vBk (pp i) (pn i) (fun j => zG ar c a j % pp i) 0) True c ar a (pn i) (vBk (pp i) (pn i) (fun j => zG ar c a j % pp i))) (fun u => some (.int (zI u.1))) (fun _ => zYK np) (fun u => zY cI cW cP cJ ad u.2.2.2 u.2.2.1 np pp pn pg u.2.1) := by
  obtain ⟨hnp, hcr, hgr, hpl⟩ := hYI
  obtain ⟨hpn, hpw, hiq⟩ := hpl i hi
  obtain ⟨⟨hp3, hp4, hp5⟩, hp6, hn1, hn2, hn3⟩ := id hpn
  refine z_startW (cc := cL_backward) (maxL := 6) (ret := some .int) (hh := [(0, 12, 15, 13), (0, 12, 19, 15), (0, 12, 23, 17)]) (own := RL) (by decide) rfl rfl (Nat.le_of_ble_eq_true rfl) [(0, .ref (ad (4, 0))), (1, .int (zI i)), (2, .int (zI a)), (3, .int (zI w)), (4, .ref (ad (18, 0)))] rfl ?_
  intro pp_ ee s mm below meth cc A0 H ls hX hA0 htab hx hb hr hml hts hown hlocks hK hF hI hKA hS hA hl
  have CF : CallFix pp_ mm cc cL_backward 6 s ([.ref (ad (4, 0)), .int (zI i), .int (zI a), .int (zI w), .ref (ad (18, 0))] : List Value).toArray wsL_backward RL := ⟨hx, hb, hml, hown, hts⟩
  refine lv_aload hx hb dL_backward_0 (lv_at hl 4 rfl) ?_
  refine z_iconst hx hb dL_backward_2 ?_
  refine lv_aload_n hx hb dL_backward_3 rfl (lv_at hl 0 rfl) ?_
  refine lv_iload_n hx hb dL_backward_4 rfl (lv_at hl 1 rfl) ?_
  refine lv_iload_n hx hb dL_backward_5 rfl (lv_at hl 2 rfl) ?_
  refine lv_iload_n hx hb dL_backward_6 rfl (lv_at hl 3 rfl) ?_
  have hRc := zf_sub hF [(4, 0), (6, 0)] (List.forall_mem_cons.mpr ⟨zKf 4 rfl rfl, (List.forall_mem_cons.mpr ⟨zKf 6 rfl rfl, (fun _ h => absurd h List.not_mem_nil)⟩)⟩) (wc := [((ad (4, 0)), .inr (4, [.ref (ad (5, 0)), .ref (ad (6, 0)), .int (zI np), .ref (ad (7, 0)), .ref (ad (8, 0)), .ref (ad (9, 0)), .ref (ad (10, 0))])), ((ad (6, 0)), .inl (cP, 8, .inr (.inr (.inr (.inr (fun k : Nat => pg (k : Int)))))))]) rfl
  refine zw_catch (E := "java/lang/IndexOutOfBoundsException") (name := "java/lang/IndexOutOfBoundsException") (own := RL) (vx_runV (As := [.int (zI i), .int (zI a), .int (zI w)]) (rest := [.int (zI 0), .ref (ad (18, 0))]) CF (x_X5_backward_1b l hl9 D cI cW cP (ad (4, 0)) (ad (5, 0)) (ad (6, 0)) np (ad (7, 0)) (ad (8, 0)) (ad (9, 0)) (ad (10, 0)) pg i a w (ad (2, i)) (by first | omega | assumption) (by exact hiq) (by first | omega | assumption) (by first | omega | assumption) A0 H.size) (cwV 3 hts gL_backward_X5_backward rfl rfl rfl (by decide +kernel) ⟨Nat.le_of_ble_eq_true rfl, Nat.le_of_ble_eq_true rfl⟩) (zw_preTV (va_recv hK hRc (ci := 4) (q0 := 0) rfl rfl) hX hA0 hA hS hRc (hK.sub (tys' := [(cI, .int), (cW, .object RX3), (cP, .object RX2)]) [0, 1, 2] rfl)) rfl rfl hl.1 rfl (lv_room (Nat.le_of_ble_eq_true rfl)) dL_backward_7 ⟨Nat.le_of_ble_eq_true rfl, Nat.le_of_ble_eq_true rfl⟩) hF hS hA hown [] ⟨0, 12, 15, 13⟩ [⟨0, 12, 19, 15⟩, ⟨0, 12, 23, 17⟩] (htab.trans rfl) (fun _ h => absurd h List.not_mem_nil) rfl (by decide) (hts (.classLink RL 13 "java/lang/IndexOutOfBoundsException") (by decide +kernel)) (z_cast (hts (.initialized "java/lang/IndexOutOfBoundsException") (by decide +kernel))) (fun q H locs hF hS => ?_)
  refine lv_astore (lv' := [(5, .ref q), (0, .ref (ad (4, 0))), (1, .int (zI i)), (2, .int (zI a)), (3, .int (zI w)), (4, .ref (ad (18, 0)))]) hx hb dL_backward_15 hl (by decide) rfl (fun ls hl => ?_)
  have hl := lv_sub hl [1, 2, 3, 4, 5, 0] rfl
  have hl : lv_has ls 6 [(0, .ref (ad (4, 0))), (1, .int (zI i)), (2, .int (zI a)), (3, .int (zI w)), (4, .ref (ad (18, 0))), (5, .ref q)] := hl
  refine z_iconst hx hb dL_backward_17 ?_
  refine W.widen (k := 2) (n := 70) (Nat.le_of_ble_eq_true rfl) (Nat.le_of_ble_eq_true rfl) ?_
  exact zw_iret hx hb hr hlocks (1, o, c, ar) rfl (zWp_err (by decide)) hF hI hKA hS dL_backward_18

set_option maxHeartbeats 4000000 in
set_option maxRecDepth 100000 in
theorem w_backward_e2 (l : Launch) (hl9 : l.stackTraces = false) (D : va_G) (cI cW cP cJ : ClassId) (ad : zk → Nat) (ar : zk → Int → Int) (c : Int → Int) (np : Int) (pp pn : Int → Int) (pg : Int → Option Nat) (o : Nat → Int64) (i : Int) (a : Int) (w : Int) (hYI : zYI ad ar c np pp pn pg) (ha_w : -2147483648 ≤ w ∧ w ≤ 2147483647) (hi : 0 ≤ i ∧ i < np) (hra : 0 ≤ a ∧ a < 4) (hww : ¬ (0 ≤ w ∧ w ≤ 4 ∧ wset (pn i) / 2 ^ w.toNat % 2 = 1)) : zWC l yL_backward wsL_backward D [(cI, .int), (cW, .object RX3), (cP, .object RX2), (cJ, .long)] (zYK np) (zY cI cW cP cJ ad ar c np pp pn pg o) [.ref (ad (4, 0)), .int (zI i), .int (zI a), .int (zI w), .ref (ad (18, 0))] (S := Int × (Nat → Int64) × (Int → Int) × (zk → Int → Int)) (zWp 2 (vBk (pp i) (pn i) (fun j => zG ar c a j % pp i) 0) True c ar a (pn i) (vBk (pp i) (pn i) (fun j => zG ar c a j % pp i))) (fun u => some (.int (zI u.1))) (fun _ => zYK np) (fun u => zY cI cW cP cJ ad u.2.2.2 u.2.2.1 np pp pn pg u.2.1) := by
  obtain ⟨hnp, hcr, hgr, hpl⟩ := hYI
  have hca_ := hcr a hra
  obtain ⟨hpn, hpw, hiq⟩ := hpl i hi
  obtain ⟨⟨hp3, hp4, hp5⟩, hp6, hn1, hn2, hn3⟩ := id hpn
  refine z_startW (cc := cL_backward) (maxL := 6) (ret := some .int) (hh := [(0, 12, 15, 13), (0, 12, 19, 15), (0, 12, 23, 17)]) (own := RL) (by decide) rfl rfl (Nat.le_of_ble_eq_true rfl) [(0, .ref (ad (4, 0))), (1, .int (zI i)), (2, .int (zI a)), (3, .int (zI w)), (4, .ref (ad (18, 0)))] rfl ?_
  intro pp_ ee s mm below meth cc A0 H ls hX hA0 htab hx hb hr hml hts hown hlocks hK hF hI hKA hS hA hl
  have CF : CallFix pp_ mm cc cL_backward 6 s ([.ref (ad (4, 0)), .int (zI i), .int (zI a), .int (zI w), .ref (ad (18, 0))] : List Value).toArray wsL_backward RL := ⟨hx, hb, hml, hown, hts⟩
  refine lv_aload hx hb dL_backward_0 (lv_at hl 4 rfl) ?_
  refine z_iconst hx hb dL_backward_2 ?_
  refine lv_aload_n hx hb dL_backward_3 rfl (lv_at hl 0 rfl) ?_
  refine lv_iload_n hx hb dL_backward_4 rfl (lv_at hl 1 rfl) ?_
  refine lv_iload_n hx hb dL_backward_5 rfl (lv_at hl 2 rfl) ?_
  refine lv_iload_n hx hb dL_backward_6 rfl (lv_at hl 3 rfl) ?_
  have hRc := zf_sub hF [(4, 0), (5, 0), (6, 0), (2, i)] (List.forall_mem_cons.mpr ⟨zKf 4 rfl rfl, (List.forall_mem_cons.mpr ⟨zKf 5 rfl rfl, (List.forall_mem_cons.mpr ⟨zKf 6 rfl rfl, (List.forall_mem_cons.mpr ⟨zK2 hi, (fun _ h => absurd h List.not_mem_nil)⟩)⟩)⟩)⟩) (wc := [((ad (4, 0)), .inr (4, [.ref (ad (5, 0)), .ref (ad (6, 0)), .int (zI np), .ref (ad (7, 0)), .ref (ad (8, 0)), .ref (ad (9, 0)), .ref (ad (10, 0))])), ((ad (5, 0)), .inl (cW, 4, .inr (.inr (.inr (.inr (fun k : Nat => (zRg ad) (k : Int))))))), ((ad (6, 0)), .inl (cP, 8, .inr (.inr (.inr (.inr (fun k : Nat => pg (k : Int))))))), ((ad (2, i)), .inr (1, [.int (zI (pp i)), .int (zI (pn i)), .int (zI (zInv (pp i) (pn i))), .int (zI (wset (pn i))), .int (zI (zGn (pn i))), .ref (ad (3, i))]))]) rfl
  refine zw_catch (E := "java/lang/IllegalArgumentException") (name := "java/lang/IllegalArgumentException") (own := RL) (vx_runV (As := [.int (zI i), .int (zI a), .int (zI w)]) (rest := [.int (zI 0), .ref (ad (18, 0))]) CF (x_X5_backward_2 l hl9 D cI cW cP (ad (4, 0)) (ad (5, 0)) (ad (6, 0)) np (ad (7, 0)) (ad (8, 0)) (ad (9, 0)) (ad (10, 0)) (zRg ad) pg i a w (ad (2, i)) (pp i) (pn i) (ad (3, i)) (ad (0, a)) (by first | omega | assumption) (by exact hiq) (by first | omega | assumption) (by exact zRg_at hra) (by first | omega | assumption) (by first | omega | assumption) (by first | omega | assumption) A0 H.size) (cwV 3 hts gL_backward_X5_backward rfl rfl rfl (by decide +kernel) ⟨Nat.le_of_ble_eq_true rfl, Nat.le_of_ble_eq_true rfl⟩) (zw_preTV (va_recv hK hRc (ci := 4) (q0 := 0) rfl rfl) hX hA0 hA hS hRc (hK.sub (tys' := [(cI, .int), (cW, .object RX3), (cP, .object RX2)]) [0, 1, 2] rfl)) rfl rfl hl.1 rfl (lv_room (Nat.le_of_ble_eq_true rfl)) dL_backward_7 ⟨Nat.le_of_ble_eq_true rfl, Nat.le_of_ble_eq_true rfl⟩) hF hS hA hown [⟨0, 12, 15, 13⟩] ⟨0, 12, 19, 15⟩ [⟨0, 12, 23, 17⟩] (htab.trans rfl) (List.forall_mem_cons.mpr ⟨Or.inr ⟨by decide, _, hts (.classLink RL 13 "java/lang/IndexOutOfBoundsException") (by decide +kernel), hX.2.2.2.1⟩, (fun _ h => absurd h List.not_mem_nil)⟩) rfl (by decide) (hts (.classLink RL 15 "java/lang/IllegalArgumentException") (by decide +kernel)) (z_cast (hts (.initialized "java/lang/IllegalArgumentException") (by decide +kernel))) (fun q H locs hF hS => ?_)
  refine lv_astore (lv' := [(5, .ref q), (0, .ref (ad (4, 0))), (1, .int (zI i)), (2, .int (zI a)), (3, .int (zI w)), (4, .ref (ad (18, 0)))]) hx hb dL_backward_19 hl (by decide) rfl (fun ls hl => ?_)
  have hl := lv_sub hl [1, 2, 3, 4, 5, 0] rfl
  have hl : lv_has ls 6 [(0, .ref (ad (4, 0))), (1, .int (zI i)), (2, .int (zI a)), (3, .int (zI w)), (4, .ref (ad (18, 0))), (5, .ref q)] := hl
  refine z_iconst hx hb dL_backward_21 ?_
  refine W.widen (k := 2) (n := 70) (Nat.le_of_ble_eq_true rfl) (Nat.le_of_ble_eq_true rfl) ?_
  exact zw_iret hx hb hr hlocks (2, o, c, ar) rfl (zWp_err (by decide)) hF hI hKA hS dL_backward_22

set_option maxHeartbeats 4000000 in
set_option maxRecDepth 100000 in
theorem w_backward_e3 (l : Launch) (hl9 : l.stackTraces = false) (D : va_G) (cI cW cP cJ : ClassId) (ad : zk → Nat) (ar : zk → Int → Int) (c : Int → Int) (np : Int) (pp pn : Int → Int) (pg : Int → Option Nat) (o : Nat → Int64) (i : Int) (a : Int) (w : Int) (hYI : zYI ad ar c np pp pn pg) (hi : 0 ≤ i ∧ i < np) (hra : 0 ≤ a ∧ a < 4) (hw4 : 0 ≤ w ∧ w ≤ 4) (hww : wset (pn i) / 2 ^ w.toNat % 2 = 1) (hfit : pn i < c a) : zWC l yL_backward wsL_backward D [(cI, .int), (cW, .object RX3), (cP, .object RX2), (cJ, .long)] (zYK np) (zY cI cW cP cJ ad ar c np pp pn pg o) [.ref (ad (4, 0)), .int (zI i), .int (zI a), .int (zI w), .ref (ad (18, 0))] (S := Int × (Nat → Int64) × (Int → Int) × (zk → Int → Int)) (zWp 3 (vBk (pp i) (pn i) (fun j => zG ar c a j % pp i) 0) True c ar a (pn i) (vBk (pp i) (pn i) (fun j => zG ar c a j % pp i))) (fun u => some (.int (zI u.1))) (fun _ => zYK np) (fun u => zY cI cW cP cJ ad u.2.2.2 u.2.2.1 np pp pn pg u.2.1) := by
  obtain ⟨hnp, hcr, hgr, hpl⟩ := hYI
  have hca_ := hcr a hra
  obtain ⟨hpn, hpw, hiq⟩ := hpl i hi
  obtain ⟨⟨hp3, hp4, hp5⟩, hp6, hn1, hn2, hn3⟩ := id hpn
  refine z_startW (cc := cL_backward) (maxL := 6) (ret := some .int) (hh := [(0, 12, 15, 13), (0, 12, 19, 15), (0, 12, 23, 17)]) (own := RL) (by decide) rfl rfl (Nat.le_of_ble_eq_true rfl) [(0, .ref (ad (4, 0))), (1, .int (zI i)), (2, .int (zI a)), (3, .int (zI w)), (4, .ref (ad (18, 0)))] rfl ?_
  intro pp_ ee s mm below meth cc A0 H ls hX hA0 htab hx hb hr hml hts hown hlocks hK hF hI hKA hS hA hl
  have CF : CallFix pp_ mm cc cL_backward 6 s ([.ref (ad (4, 0)), .int (zI i), .int (zI a), .int (zI w), .ref (ad (18, 0))] : List Value).toArray wsL_backward RL := ⟨hx, hb, hml, hown, hts⟩
  refine lv_aload hx hb dL_backward_0 (lv_at hl 4 rfl) ?_
  refine z_iconst hx hb dL_backward_2 ?_
  refine lv_aload_n hx hb dL_backward_3 rfl (lv_at hl 0 rfl) ?_
  refine lv_iload_n hx hb dL_backward_4 rfl (lv_at hl 1 rfl) ?_
  refine lv_iload_n hx hb dL_backward_5 rfl (lv_at hl 2 rfl) ?_
  refine lv_iload_n hx hb dL_backward_6 rfl (lv_at hl 3 rfl) ?_
  have hRc := zf_sub hF [(4, 0), (5, 0), (6, 0), (2, i), (0, a)] (List.forall_mem_cons.mpr ⟨zKf 4 rfl rfl, (List.forall_mem_cons.mpr ⟨zKf 5 rfl rfl, (List.forall_mem_cons.mpr ⟨zKf 6 rfl rfl, (List.forall_mem_cons.mpr ⟨zK2 hi, (List.forall_mem_cons.mpr ⟨zK0 hra, (fun _ h => absurd h List.not_mem_nil)⟩)⟩)⟩)⟩)⟩) (wc := [((ad (4, 0)), .inr (4, [.ref (ad (5, 0)), .ref (ad (6, 0)), .int (zI np), .ref (ad (7, 0)), .ref (ad (8, 0)), .ref (ad (9, 0)), .ref (ad (10, 0))])), ((ad (5, 0)), .inl (cW, 4, .inr (.inr (.inr (.inr (fun k : Nat => (zRg ad) (k : Int))))))), ((ad (6, 0)), .inl (cP, 8, .inr (.inr (.inr (.inr (fun k : Nat => pg (k : Int))))))), ((ad (2, i)), .inr (1, [.int (zI (pp i)), .int (zI (pn i)), .int (zI (zInv (pp i) (pn i))), .int (zI (wset (pn i))), .int (zI (zGn (pn i))), .ref (ad (3, i))])), ((ad (0, a)), .inr (2, [.ref (ad (1, a)), .int (zI (c a))]))]) rfl
  refine zw_catch (E := "java/lang/IllegalStateException") (name := "java/lang/IllegalStateException") (own := RL) (vx_runV (As := [.int (zI i), .int (zI a), .int (zI w)]) (rest := [.int (zI 0), .ref (ad (18, 0))]) CF (x_X5_backward_3 l hl9 D cI cW cP (ad (4, 0)) (ad (5, 0)) (ad (6, 0)) np (ad (7, 0)) (ad (8, 0)) (ad (9, 0)) (ad (10, 0)) (zRg ad) pg i a w (ad (2, i)) (pp i) (pn i) (ad (3, i)) (ad (0, a)) (ad (1, a)) (c a) (by first | omega | assumption) (by exact hiq) (by first | omega | assumption) (by exact zRg_at hra) (by first | omega | assumption) (by first | omega | assumption) (by first | omega | assumption) A0 H.size) (cwV 3 hts gL_backward_X5_backward rfl rfl rfl (by decide +kernel) ⟨Nat.le_of_ble_eq_true rfl, Nat.le_of_ble_eq_true rfl⟩) (zw_preTV (va_recv hK hRc (ci := 4) (q0 := 0) rfl rfl) hX hA0 hA hS hRc (hK.sub (tys' := [(cI, .int), (cW, .object RX3), (cP, .object RX2)]) [0, 1, 2] rfl)) rfl rfl hl.1 rfl (lv_room (Nat.le_of_ble_eq_true rfl)) dL_backward_7 ⟨Nat.le_of_ble_eq_true rfl, Nat.le_of_ble_eq_true rfl⟩) hF hS hA hown [⟨0, 12, 15, 13⟩, ⟨0, 12, 19, 15⟩] ⟨0, 12, 23, 17⟩ [] (htab.trans rfl) (List.forall_mem_cons.mpr ⟨Or.inr ⟨by decide, _, hts (.classLink RL 13 "java/lang/IndexOutOfBoundsException") (by decide +kernel), hX.2.2.2.2.1⟩, (List.forall_mem_cons.mpr ⟨Or.inr ⟨by decide, _, hts (.classLink RL 15 "java/lang/IllegalArgumentException") (by decide +kernel), hX.2.2.2.2.2.1⟩, (fun _ h => absurd h List.not_mem_nil)⟩)⟩) rfl (by decide) (hts (.classLink RL 17 "java/lang/IllegalStateException") (by decide +kernel)) (z_cast (hts (.initialized "java/lang/IllegalStateException") (by decide +kernel))) (fun q H locs hF hS => ?_)
  refine lv_astore (lv' := [(5, .ref q), (0, .ref (ad (4, 0))), (1, .int (zI i)), (2, .int (zI a)), (3, .int (zI w)), (4, .ref (ad (18, 0)))]) hx hb dL_backward_23 hl (by decide) rfl (fun ls hl => ?_)
  have hl := lv_sub hl [1, 2, 3, 4, 5, 0] rfl
  have hl : lv_has ls 6 [(0, .ref (ad (4, 0))), (1, .int (zI i)), (2, .int (zI a)), (3, .int (zI w)), (4, .ref (ad (18, 0))), (5, .ref q)] := hl
  refine z_iconst hx hb dL_backward_25 ?_
  refine W.widen (k := 2) (n := 70) (Nat.le_of_ble_eq_true rfl) (Nat.le_of_ble_eq_true rfl) ?_
  exact zw_iret hx hb hr hlocks (3, o, c, ar) rfl (zWp_err (by decide)) hF hI hKA hS dL_backward_26

set_option maxHeartbeats 4000000 in
set_option maxRecDepth 100000 in
theorem w_backward_ok (l : Launch) (hl9 : l.stackTraces = false) (D : va_G) (cI cW cP cJ : ClassId) (ad : zk → Nat) (ar : zk → Int → Int) (c : Int → Int) (np : Int) (pp pn : Int → Int) (pg : Int → Option Nat) (o : Nat → Int64) (i : Int) (a : Int) (w : Int) (hYI : zYI ad ar c np pp pn pg) (hi : 0 ≤ i ∧ i < np) (hra : 0 ≤ a ∧ a < 4) (hw4 : 0 ≤ w ∧ w ≤ 4) (hww : wset (pn i) / 2 ^ w.toNat % 2 = 1) (hfit : c a ≤ pn i) : zWC l yL_backward wsL_backward D [(cI, .int), (cW, .object RX3), (cP, .object RX2), (cJ, .long)] (zYK np) (zY cI cW cP cJ ad ar c np pp pn pg o) [.ref (ad (4, 0)), .int (zI i), .int (zI a), .int (zI w), .ref (ad (18, 0))] (S := Int × (Nat → Int64) × (Int → Int) × (zk → Int → Int)) (zWp 0 (vBk (pp i) (pn i) (fun j => zG ar c a j % pp i) 0) True c ar a (pn i) (vBk (pp i) (pn i) (fun j => zG ar c a j % pp i))) (fun u => some (.int (zI u.1))) (fun _ => zYK np) (fun u => zY cI cW cP cJ ad u.2.2.2 u.2.2.1 np pp pn pg u.2.1) := by
  obtain ⟨hnp, hcr, hgr, hpl⟩ := hYI
  have hca_ := hcr a hra
  obtain ⟨hpn, hpw, hiq⟩ := hpl i hi
  obtain ⟨⟨hp3, hp4, hp5⟩, hp6, hn1, hn2, hn3⟩ := id hpn
  have hvr := vBk_rng (p := pp i) (n := pn i) (X := (fun j => zG ar c a j % pp i)) (k := 0) (by omega)
  have hv_ : ∀ k, 0 ≤ k → _ = vBk (pp i) (pn i) (fun j => zG ar c a j % pp i) k := fun k hk => vBk_of hpn hpw hk
  refine z_startW (cc := cL_backward) (maxL := 6) (ret := some .int) (hh := [(0, 12, 15, 13), (0, 12, 19, 15), (0, 12, 23, 17)]) (own := RL) (by decide) rfl rfl (Nat.le_of_ble_eq_true rfl) [(0, .ref (ad (4, 0))), (1, .int (zI i)), (2, .int (zI a)), (3, .int (zI w)), (4, .ref (ad (18, 0)))] rfl ?_
  intro pp_ ee s mm below meth cc A0 H ls hX hA0 htab hx hb hr hml hts hown hlocks hK hF hI hKA hS hA hl
  have CF : CallFix pp_ mm cc cL_backward 6 s ([.ref (ad (4, 0)), .int (zI i), .int (zI a), .int (zI w), .ref (ad (18, 0))] : List Value).toArray wsL_backward RL := ⟨hx, hb, hml, hown, hts⟩
  refine lv_aload hx hb dL_backward_0 (lv_at hl 4 rfl) ?_
  refine z_iconst hx hb dL_backward_2 ?_
  refine lv_aload_n hx hb dL_backward_3 rfl (lv_at hl 0 rfl) ?_
  refine lv_iload_n hx hb dL_backward_4 rfl (lv_at hl 1 rfl) ?_
  refine lv_iload_n hx hb dL_backward_5 rfl (lv_at hl 2 rfl) ?_
  refine lv_iload_n hx hb dL_backward_6 rfl (lv_at hl 3 rfl) ?_
  have hRc := zf_sub hF [(4, 0), (5, 0), (6, 0), (7, 0), (2, i), (3, i)] (List.forall_mem_cons.mpr ⟨zKf 4 rfl rfl, (List.forall_mem_cons.mpr ⟨zKf 5 rfl rfl, (List.forall_mem_cons.mpr ⟨zKf 6 rfl rfl, (List.forall_mem_cons.mpr ⟨zKf 7 rfl rfl, (List.forall_mem_cons.mpr ⟨zK2 hi, (List.forall_mem_cons.mpr ⟨zK3 hi, (fun _ h => absurd h List.not_mem_nil)⟩)⟩)⟩)⟩)⟩)⟩) (wc := [((ad (4, 0)), .inr (4, [.ref (ad (5, 0)), .ref (ad (6, 0)), .int (zI np), .ref (ad (7, 0)), .ref (ad (8, 0)), .ref (ad (9, 0)), .ref (ad (10, 0))])), ((ad (5, 0)), .inl (cW, 4, .inr (.inr (.inr (.inr (fun k : Nat => (zRg ad) (k : Int))))))), ((ad (6, 0)), .inl (cP, 8, .inr (.inr (.inr (.inr (fun k : Nat => pg (k : Int))))))), ((ad (7, 0)), .inr (3, [.ref (ad (11, 0)), .ref (ad (12, 0)), .ref (ad (13, 0)), .ref (ad (14, 0)), .ref (ad (15, 0))])), ((ad (2, i)), .inr (1, [.int (zI (pp i)), .int (zI (pn i)), .int (zI (zInv (pp i) (pn i))), .int (zI (wset (pn i))), .int (zI (zGn (pn i))), .ref (ad (3, i))])), ((ad (3, i)), .inl (cI, 64, .inl (zA (ar (3, i)))))]) rfl
  have hPc := zf_sub hF [(0, a), (1, a), (9, 0), (11, 0), (12, 0), (13, 0), (14, 0), (15, 0)] (List.forall_mem_cons.mpr ⟨zK0 hra, (List.forall_mem_cons.mpr ⟨zK1 hra, (List.forall_mem_cons.mpr ⟨zKf 9 rfl rfl, (List.forall_mem_cons.mpr ⟨zKf 11 rfl rfl, (List.forall_mem_cons.mpr ⟨zKf 12 rfl rfl, (List.forall_mem_cons.mpr ⟨zKf 13 rfl rfl, (List.forall_mem_cons.mpr ⟨zKf 14 rfl rfl, (List.forall_mem_cons.mpr ⟨zKf 15 rfl rfl, (fun _ h => absurd h List.not_mem_nil)⟩)⟩)⟩)⟩)⟩)⟩)⟩)⟩) (wc := [((ad (0, a)), .inr (2, [.ref (ad (1, a)), .int (zI (c a))])), ((ad (1, a)), .inl (cI, 64, .inl (zA (ar (1, a))))), ((ad (9, 0)), .inl (cI, 64, .inl (zA (ar (9, 0))))), ((ad (11, 0)), .inl (cI, 64, .inl (zA (ar (11, 0))))), ((ad (12, 0)), .inl (cI, 64, .inl (zA (ar (12, 0))))), ((ad (13, 0)), .inl (cI, 64, .inl (zA (ar (13, 0))))), ((ad (14, 0)), .inl (cI, 64, .inl (zA (ar (14, 0))))), ((ad (15, 0)), .inl (cI, 128, .inl (zA (ar (15, 0)))))]) rfl
  have hDc := zf_subD hI hKA [(0, a), (1, a), (9, 0), (11, 0), (12, 0), (13, 0), (14, 0), (15, 0)] (List.forall_mem_cons.mpr ⟨zK0 hra, (List.forall_mem_cons.mpr ⟨zK1 hra, (List.forall_mem_cons.mpr ⟨zKf 9 rfl rfl, (List.forall_mem_cons.mpr ⟨zKf 11 rfl rfl, (List.forall_mem_cons.mpr ⟨zKf 12 rfl rfl, (List.forall_mem_cons.mpr ⟨zKf 13 rfl rfl, (List.forall_mem_cons.mpr ⟨zKf 14 rfl rfl, (List.forall_mem_cons.mpr ⟨zKf 15 rfl rfl, (fun _ h => absurd h List.not_mem_nil)⟩)⟩)⟩)⟩)⟩)⟩)⟩)⟩) (by simp) (wc := [((ad (0, a)), .inr (2, [.ref (ad (1, a)), .int (zI (c a))])), ((ad (1, a)), .inl (cI, 64, .inl (zA (ar (1, a))))), ((ad (9, 0)), .inl (cI, 64, .inl (zA (ar (9, 0))))), ((ad (11, 0)), .inl (cI, 64, .inl (zA (ar (11, 0))))), ((ad (12, 0)), .inl (cI, 64, .inl (zA (ar (12, 0))))), ((ad (13, 0)), .inl (cI, 64, .inl (zA (ar (13, 0))))), ((ad (14, 0)), .inl (cI, 64, .inl (zA (ar (14, 0))))), ((ad (15, 0)), .inl (cI, 128, .inl (zA (ar (15, 0)))))]) rfl
  have hXc := zf_dis hI [(0, a), (1, a), (9, 0), (11, 0), (12, 0), (13, 0), (14, 0), (15, 0)] [(4, 0), (5, 0), (6, 0), (7, 0), (2, i), (3, i)] (List.forall_mem_cons.mpr ⟨zK0 hra, (List.forall_mem_cons.mpr ⟨zK1 hra, (List.forall_mem_cons.mpr ⟨zKf 9 rfl rfl, (List.forall_mem_cons.mpr ⟨zKf 11 rfl rfl, (List.forall_mem_cons.mpr ⟨zKf 12 rfl rfl, (List.forall_mem_cons.mpr ⟨zKf 13 rfl rfl, (List.forall_mem_cons.mpr ⟨zKf 14 rfl rfl, (List.forall_mem_cons.mpr ⟨zKf 15 rfl rfl, (fun _ h => absurd h List.not_mem_nil)⟩)⟩)⟩)⟩)⟩)⟩)⟩)⟩) (List.forall_mem_cons.mpr ⟨zKf 4 rfl rfl, (List.forall_mem_cons.mpr ⟨zKf 5 rfl rfl, (List.forall_mem_cons.mpr ⟨zKf 6 rfl rfl, (List.forall_mem_cons.mpr ⟨zKf 7 rfl rfl, (List.forall_mem_cons.mpr ⟨zK2 hi, (List.forall_mem_cons.mpr ⟨zK3 hi, (fun _ h => absurd h List.not_mem_nil)⟩)⟩)⟩)⟩)⟩)⟩) (by simp) (wc := [((ad (0, a)), .inr (2, [.ref (ad (1, a)), .int (zI (c a))])), ((ad (1, a)), .inl (cI, 64, .inl (zA (ar (1, a))))), ((ad (9, 0)), .inl (cI, 64, .inl (zA (ar (9, 0))))), ((ad (11, 0)), .inl (cI, 64, .inl (zA (ar (11, 0))))), ((ad (12, 0)), .inl (cI, 64, .inl (zA (ar (12, 0))))), ((ad (13, 0)), .inl (cI, 64, .inl (zA (ar (13, 0))))), ((ad (14, 0)), .inl (cI, 64, .inl (zA (ar (14, 0))))), ((ad (15, 0)), .inl (cI, 128, .inl (zA (ar (15, 0)))))]) (rc := [((ad (4, 0)), .inr (4, [.ref (ad (5, 0)), .ref (ad (6, 0)), .int (zI np), .ref (ad (7, 0)), .ref (ad (8, 0)), .ref (ad (9, 0)), .ref (ad (10, 0))])), ((ad (5, 0)), .inl (cW, 4, .inr (.inr (.inr (.inr (fun k : Nat => (zRg ad) (k : Int))))))), ((ad (6, 0)), .inl (cP, 8, .inr (.inr (.inr (.inr (fun k : Nat => pg (k : Int))))))), ((ad (7, 0)), .inr (3, [.ref (ad (11, 0)), .ref (ad (12, 0)), .ref (ad (13, 0)), .ref (ad (14, 0)), .ref (ad (15, 0))])), ((ad (2, i)), .inr (1, [.int (zI (pp i)), .int (zI (pn i)), .int (zI (zInv (pp i) (pn i))), .int (zI (wset (pn i))), .int (zI (zGn (pn i))), .ref (ad (3, i))])), ((ad (3, i)), .inl (cI, 64, .inl (zA (ar (3, i)))))]) rfl rfl
  refine zf_call (wc := [((ad (0, a)), .inr (2, [.ref (ad (1, a)), .int (zI (c a))])), ((ad (1, a)), .inl (cI, 64, .inl (zA (ar (1, a))))), ((ad (9, 0)), .inl (cI, 64, .inl (zA (ar (9, 0))))), ((ad (11, 0)), .inl (cI, 64, .inl (zA (ar (11, 0))))), ((ad (12, 0)), .inl (cI, 64, .inl (zA (ar (12, 0))))), ((ad (13, 0)), .inl (cI, 64, .inl (zA (ar (13, 0))))), ((ad (14, 0)), .inl (cI, 64, .inl (zA (ar (14, 0))))), ((ad (15, 0)), .inl (cI, 128, .inl (zA (ar (15, 0)))))]) (va_runV (As := [.int (zI i), .int (zI a), .int (zI w)]) (rest := [.int (zI 0), .ref (ad (18, 0))]) CF (c_X5_backward_ok l D cI cW cP (ad (4, 0)) (ad (5, 0)) (ad (6, 0)) np (ad (7, 0)) (ad (8, 0)) (ad (9, 0)) (ad (10, 0)) (zRg ad) pg (ad (11, 0)) (ad (12, 0)) (ad (13, 0)) (ad (14, 0)) (ad (15, 0)) i a w (ad (2, i)) (pp i) (pn i) (ad (3, i)) (ar (3, i)) (ad (0, a)) (ad (1, a)) (c a) (ar (1, a)) (ar (9, 0)) (ar (11, 0)) (ar (12, 0)) (ar (13, 0)) (ar (14, 0)) (ar (15, 0)) (by first | omega | assumption) (by exact hiq) (by first | omega | assumption) (by exact zRg_at hra) (by first | omega | assumption) (by first | omega | assumption) (by first | omega | assumption) (by exact hgr a hra) (by first | omega | assumption) (by first | omega | assumption) (by first | omega | assumption) H.size) (cwV 3 hts gL_backward_X5_backward rfl rfl rfl (by decide +kernel) ⟨Nat.le_of_ble_eq_true rfl, Nat.le_of_ble_eq_true rfl⟩) (z_preV (va_recv hK hRc (ci := 4) (q0 := 0) rfl rfl) hPc hDc hRc hXc (hK.sub (tys' := [(cI, .int), (cW, .object RX3), (cP, .object RX2)]) [0, 1, 2] rfl)) rfl rfl hl.1 rfl (lv_room (Nat.le_of_ble_eq_true rfl)) dL_backward_7 ⟨Nat.le_of_ble_eq_true rfl, Nat.le_of_ble_eq_true rfl⟩) hF hI hKA hS hA [(0, a), (1, a), (9, 0), (11, 0), (12, 0), (13, 0), (14, 0), (15, 0)] [(0, a), (1, a), (9, 0), (11, 0), (12, 0), (13, 0), (14, 0), (15, 0)] (List.forall_mem_cons.mpr ⟨zK0 hra, (List.forall_mem_cons.mpr ⟨zK1 hra, (List.forall_mem_cons.mpr ⟨zKf 9 rfl rfl, (List.forall_mem_cons.mpr ⟨zKf 11 rfl rfl, (List.forall_mem_cons.mpr ⟨zKf 12 rfl rfl, (List.forall_mem_cons.mpr ⟨zKf 13 rfl rfl, (List.forall_mem_cons.mpr ⟨zKf 14 rfl rfl, (List.forall_mem_cons.mpr ⟨zKf 15 rfl rfl, (fun _ h => absurd h List.not_mem_nil)⟩)⟩)⟩)⟩)⟩)⟩)⟩)⟩) rfl (fun _ => zYK np) (fun (a2, gl2, gm2, gd2, gn_2, gs2, gc2) => zY cI cW cP cJ ad (zUA (zUA (zUA (zUA (zUA (zUA (zUA ar (1, a) a2) (9, 0) gl2) (11, 0) gm2) (12, 0) gd2) (13, 0) gn_2) (14, 0) gs2) (15, 0) gc2) (zU c a (pn i)) np pp pn pg o) (fun u hu => by
        obtain ⟨a2, gl2, gm2, gd2, gn_2, gs2, gc2⟩ := u
        show ([(ad (0, a), .inr (2, [.ref (ad (1, a)), .int (zI ((zU c a (pn i)) a))])), (ad (1, a), .inl (cI, 64, .inl (zA ((zUA (zUA (zUA (zUA (zUA (zUA (zUA ar (1, a) a2) (9, 0) gl2) (11, 0) gm2) (12, 0) gd2) (13, 0) gn_2) (14, 0) gs2) (15, 0) gc2) (1, a))))), (ad (9, 0), .inl (cI, 64, .inl (zA ((zUA (zUA (zUA (zUA (zUA (zUA (zUA ar (1, a) a2) (9, 0) gl2) (11, 0) gm2) (12, 0) gd2) (13, 0) gn_2) (14, 0) gs2) (15, 0) gc2) (9, 0))))), (ad (11, 0), .inl (cI, 64, .inl (zA ((zUA (zUA (zUA (zUA (zUA (zUA (zUA ar (1, a) a2) (9, 0) gl2) (11, 0) gm2) (12, 0) gd2) (13, 0) gn_2) (14, 0) gs2) (15, 0) gc2) (11, 0))))), (ad (12, 0), .inl (cI, 64, .inl (zA ((zUA (zUA (zUA (zUA (zUA (zUA (zUA ar (1, a) a2) (9, 0) gl2) (11, 0) gm2) (12, 0) gd2) (13, 0) gn_2) (14, 0) gs2) (15, 0) gc2) (12, 0))))), (ad (13, 0), .inl (cI, 64, .inl (zA ((zUA (zUA (zUA (zUA (zUA (zUA (zUA ar (1, a) a2) (9, 0) gl2) (11, 0) gm2) (12, 0) gd2) (13, 0) gn_2) (14, 0) gs2) (15, 0) gc2) (13, 0))))), (ad (14, 0), .inl (cI, 64, .inl (zA ((zUA (zUA (zUA (zUA (zUA (zUA (zUA ar (1, a) a2) (9, 0) gl2) (11, 0) gm2) (12, 0) gd2) (13, 0) gn_2) (14, 0) gs2) (15, 0) gc2) (14, 0))))), (ad (15, 0), .inl (cI, 128, .inl (zA ((zUA (zUA (zUA (zUA (zUA (zUA (zUA ar (1, a) a2) (9, 0) gl2) (11, 0) gm2) (12, 0) gd2) (13, 0) gn_2) (14, 0) gs2) (15, 0) gc2) (15, 0)))))] : va_W) = _
        rw [show (zU c a (pn i)) a = (pn i) from zU_s _ _ _, show (zUA (zUA (zUA (zUA (zUA (zUA (zUA ar (1, a) a2) (9, 0) gl2) (11, 0) gm2) (12, 0) gd2) (13, 0) gn_2) (14, 0) gs2) (15, 0) gc2) (1, a) = a2 from by simp [zUA], show (zUA (zUA (zUA (zUA (zUA (zUA (zUA ar (1, a) a2) (9, 0) gl2) (11, 0) gm2) (12, 0) gd2) (13, 0) gn_2) (14, 0) gs2) (15, 0) gc2) (9, 0) = gl2 from by simp [zUA], show (zUA (zUA (zUA (zUA (zUA (zUA (zUA ar (1, a) a2) (9, 0) gl2) (11, 0) gm2) (12, 0) gd2) (13, 0) gn_2) (14, 0) gs2) (15, 0) gc2) (11, 0) = gm2 from by simp [zUA], show (zUA (zUA (zUA (zUA (zUA (zUA (zUA ar (1, a) a2) (9, 0) gl2) (11, 0) gm2) (12, 0) gd2) (13, 0) gn_2) (14, 0) gs2) (15, 0) gc2) (12, 0) = gd2 from by simp [zUA], show (zUA (zUA (zUA (zUA (zUA (zUA (zUA ar (1, a) a2) (9, 0) gl2) (11, 0) gm2) (12, 0) gd2) (13, 0) gn_2) (14, 0) gs2) (15, 0) gc2) (13, 0) = gn_2 from by simp [zUA], show (zUA (zUA (zUA (zUA (zUA (zUA (zUA ar (1, a) a2) (9, 0) gl2) (11, 0) gm2) (12, 0) gd2) (13, 0) gn_2) (14, 0) gs2) (15, 0) gc2) (14, 0) = gs2 from by simp [zUA], show (zUA (zUA (zUA (zUA (zUA (zUA (zUA ar (1, a) a2) (9, 0) gl2) (11, 0) gm2) (12, 0) gd2) (13, 0) gn_2) (14, 0) gs2) (15, 0) gc2) (15, 0) = gc2 from by simp [zUA]]) (fun u hu k hk => by
        obtain ⟨a2, gl2, gm2, gd2, gn_2, gs2, gc2⟩ := u
        by_cases hm : k ∈ [(0, a), (1, a), (9, 0), (11, 0), (12, 0), (13, 0), (14, 0), (15, 0)]
        · exact Or.inl hm
        · refine Or.inr ⟨hk, hm, ?_⟩
          simp only [List.mem_cons, List.not_mem_nil, or_false, not_or] at hm
          exact zY_ext (by simp [zUA, hm]) (fun h0 => zU_n _ _ (fun h1 => hm.1 (Prod.ext h0 h1)))) (cells' := 0) (slots' := 0) rfl rfl (fun u H locs hp_ hF hI hKA hS => ?_)
  obtain ⟨a2, gl2, gm2, gd2, gn_2, gs2, gc2⟩ := u
  have hp_ : ∀ k, 0 ≤ k → k < (pn i) → a2 k = dft (pp i) (pn i) (ar (3, i)) (pn i) ((pn i) - 1) (fun j => rowAt (ar (1, a)) (c a) j % (pp i)) k * zInv (pp i) (pn i) % (pp i) := hp_
  have hF : zFP D (zYK np) (zY cI cW cP cJ ad (zUA (zUA (zUA (zUA (zUA (zUA (zUA ar (1, a) a2) (9, 0) gl2) (11, 0) gm2) (12, 0) gd2) (13, 0) gn_2) (14, 0) gs2) (15, 0) gc2) (zU c a (pn i)) np pp pn pg o) H := hF
  have hI : zIn (zYK np) (zY cI cW cP cJ ad (zUA (zUA (zUA (zUA (zUA (zUA (zUA ar (1, a) a2) (9, 0) gl2) (11, 0) gm2) (12, 0) gd2) (13, 0) gn_2) (14, 0) gs2) (15, 0) gc2) (zU c a (pn i)) np pp pn pg o) := hI
  have hrg_ : -2147483648 ≤ dft (pp i) (pn i) (ar (3, i)) (pn i) ((pn i) - 1) (fun j => rowAt (ar (1, a)) (c a) j % (pp i)) 0 * zInv (pp i) (pn i) % (pp i) ∧ dft (pp i) (pn i) (ar (3, i)) (pn i) ((pn i) - 1) (fun j => rowAt (ar (1, a)) (c a) j % (pp i)) 0 * zInv (pp i) (pn i) % (pp i) ≤ 2147483647 := by rw [show dft (pp i) (pn i) (ar (3, i)) (pn i) (pn i - 1) (fun j => rowAt (ar (1, a)) (c a) j % pp i) 0 * zInv (pp i) (pn i) % pp i = vBk (pp i) (pn i) (fun j => zG ar c a j % pp i) 0 from hv_ 0 (Int.le_refl _)]; omega
  refine z_i2l hx hb dL_backward_10 hrg_ ?_
  refine zw_last hx hb hK hF hI hKA hS (ko := (18, 0)) (zKf 18 rfl rfl) (v := dft (pp i) (pn i) (ar (3, i)) (pn i) ((pn i) - 1) (fun j => rowAt (ar (1, a)) (c a) j % (pp i)) 0 * zInv (pp i) (pn i) % (pp i)) rfl 3 rfl dL_backward_11 (zY cI cW cP cJ ad (zUA (zUA (zUA (zUA (zUA (zUA (zUA ar (1, a) a2) (9, 0) gl2) (11, 0) gm2) (12, 0) gd2) (13, 0) gn_2) (14, 0) gs2) (15, 0) gc2) (zU c a (pn i)) np pp pn pg (vp_updL o 0 (zL (dft (pp i) (pn i) (ar (3, i)) (pn i) ((pn i) - 1) (fun j => rowAt (ar (1, a)) (c a) j % (pp i)) 0 * zInv (pp i) (pn i) % (pp i))))) (fun k hk hne => zY_out hk hne) rfl (fun H locs hF hI hKA hS => ?_)
  refine lv_goto (tgt := 27) hx hb dL_backward_12 (by decide) ?_
  refine z_iconst hx hb dL_backward_27 ?_
  refine W.widen (k := 2) (n := 70) (Nat.le_of_ble_eq_true rfl) (Nat.le_of_ble_eq_true rfl) ?_
  have hv_e : dft (pp i) (pn i) (ar (3, i)) (pn i) ((pn i) - 1) (fun j => rowAt (ar (1, a)) (c a) j % (pp i)) 0 * zInv (pp i) (pn i) % (pp i) = vBk (pp i) (pn i) (fun j => zG ar c a j % pp i) 0 := by exact hv_ 0 (Int.le_refl _)
  rw [hv_e] at hrg_
  have hv_0 : (vp_updL o 0 (zL (dft (pp i) (pn i) (ar (3, i)) (pn i) ((pn i) - 1) (fun j => rowAt (ar (1, a)) (c a) j % (pp i)) 0 * zInv (pp i) (pn i) % (pp i)))) 0 = zL (vBk (pp i) (pn i) (fun j => zG ar c a j % pp i) 0) := (show vp_updL o 0 (zL (dft (pp i) (pn i) (ar (3, i)) (pn i) ((pn i) - 1) (fun j => rowAt (ar (1, a)) (c a) j % (pp i)) 0 * zInv (pp i) (pn i) % (pp i))) 0 = zL (dft (pp i) (pn i) (ar (3, i)) (pn i) ((pn i) - 1) (fun j => rowAt (ar (1, a)) (c a) j % (pp i)) 0 * zInv (pp i) (pn i) % (pp i)) from if_pos rfl).trans (congrArg zL hv_e)
  have hv_1 : ∀ k, 0 ≤ k → k < pn i → (zUA (zUA (zUA (zUA (zUA (zUA (zUA ar (1, a) a2) (9, 0) gl2) (11, 0) gm2) (12, 0) gd2) (13, 0) gn_2) (14, 0) gs2) (15, 0) gc2) (1, a) k = (vBk (pp i) (pn i) (fun j => zG ar c a j % pp i)) k := by
    intro k h1 h2
    rw [show (zUA (zUA (zUA (zUA (zUA (zUA (zUA ar (1, a) a2) (9, 0) gl2) (11, 0) gm2) (12, 0) gd2) (13, 0) gn_2) (14, 0) gs2) (15, 0) gc2) (1, a) = a2 from by simp [zUA], hp_ k h1 h2]
    exact hv_ k h1
  exact zw_iret hx hb hr hlocks (0, vp_updL o 0 (zL (dft (pp i) (pn i) (ar (3, i)) (pn i) ((pn i) - 1) (fun j => rowAt (ar (1, a)) (c a) j % (pp i)) 0 * zInv (pp i) (pn i) % (pp i))), zU c a (pn i), zUA (zUA (zUA (zUA (zUA (zUA (zUA ar (1, a) a2) (9, 0) gl2) (11, 0) gm2) (12, 0) gd2) (13, 0) gn_2) (14, 0) gs2) (15, 0) gc2) rfl (zWp_mu hv_0 hrg_ rfl hv_1 (fun r hr_ => by simp [zUA, hr_]) (fun j => by simp [zUA])) hF hI hKA hS dL_backward_28

set_option maxHeartbeats 4000000 in
set_option maxRecDepth 100000 in
theorem w_sum_e1a (l : Launch) (hl9 : l.stackTraces = false) (D : va_G) (cI cW cP cJ : ClassId) (ad : zk → Nat) (ar : zk → Int → Int) (c : Int → Int) (np : Int) (pp pn : Int → Int) (pg : Int → Option Nat) (o : Nat → Int64) (i : Int) (a : Int) (x : Int) (hYI : zYI ad ar c np pp pn pg) (ha_i : -2147483648 ≤ i ∧ i ≤ 2147483647) (ha_a : -2147483648 ≤ a ∧ a ≤ 2147483647) (ha_x : -2147483648 ≤ x ∧ x ≤ 2147483647) (hi : ¬ (0 ≤ i ∧ i < np)) : zWC l yL_sum wsL_sum D [(cI, .int), (cW, .object RX3), (cP, .object RX2), (cJ, .long)] (zYK np) (zY cI cW cP cJ ad ar c np pp pn pg o) [.ref (ad (4, 0)), .int (zI i), .int (zI a), .int (zI x), .ref (ad (18, 0))] (S := Int × (Nat → Int64) × (Int → Int) × (zk → Int → Int)) (zWp 1 (sumR (pp i) (pn i) (zRoot (pp i) (pn i)) (fun j => zG ar c a j % pp i) x) False c ar 0 0 (fun _ => 0)) (fun u => some (.int (zI u.1))) (fun _ => zYK np) (fun u => zY cI cW cP cJ ad u.2.2.2 u.2.2.1 np pp pn pg u.2.1) := by
  obtain ⟨hnp, hcr, hgr, hpl⟩ := hYI
  refine z_startW (cc := cL_sum) (maxL := 6) (ret := some .int) (hh := [(0, 12, 15, 13), (0, 12, 19, 17)]) (own := RL) (by decide) rfl rfl (Nat.le_of_ble_eq_true rfl) [(0, .ref (ad (4, 0))), (1, .int (zI i)), (2, .int (zI a)), (3, .int (zI x)), (4, .ref (ad (18, 0)))] rfl ?_
  intro pp_ ee s mm below meth cc A0 H ls hX hA0 htab hx hb hr hml hts hown hlocks hK hF hI hKA hS hA hl
  have CF : CallFix pp_ mm cc cL_sum 6 s ([.ref (ad (4, 0)), .int (zI i), .int (zI a), .int (zI x), .ref (ad (18, 0))] : List Value).toArray wsL_sum RL := ⟨hx, hb, hml, hown, hts⟩
  refine lv_aload hx hb dL_sum_0 (lv_at hl 4 rfl) ?_
  refine z_iconst hx hb dL_sum_2 ?_
  refine lv_aload_n hx hb dL_sum_3 rfl (lv_at hl 0 rfl) ?_
  refine lv_iload_n hx hb dL_sum_4 rfl (lv_at hl 1 rfl) ?_
  refine lv_iload_n hx hb dL_sum_5 rfl (lv_at hl 2 rfl) ?_
  refine lv_iload_n hx hb dL_sum_6 rfl (lv_at hl 3 rfl) ?_
  have hRc := zf_sub hF [(4, 0)] (List.forall_mem_cons.mpr ⟨zKf 4 rfl rfl, (fun _ h => absurd h List.not_mem_nil)⟩) (wc := [((ad (4, 0)), .inr (4, [.ref (ad (5, 0)), .ref (ad (6, 0)), .int (zI np), .ref (ad (7, 0)), .ref (ad (8, 0)), .ref (ad (9, 0)), .ref (ad (10, 0))]))]) rfl
  refine zw_catch (E := "java/lang/IndexOutOfBoundsException") (name := "java/lang/IndexOutOfBoundsException") (own := RL) (vx_runV (As := [.int (zI i), .int (zI a), .int (zI x)]) (rest := [.int (zI 0), .ref (ad (18, 0))]) CF (x_X5_sum_1a l hl9 D cI cW cP (ad (4, 0)) (ad (5, 0)) (ad (6, 0)) np (ad (7, 0)) (ad (8, 0)) (ad (9, 0)) (ad (10, 0)) i a x (by first | omega | assumption) (by first | omega | assumption) (by first | omega | assumption) A0 H.size) (cwV 3 hts gL_sum_X5_sum rfl rfl rfl (by decide +kernel) ⟨Nat.le_of_ble_eq_true rfl, Nat.le_of_ble_eq_true rfl⟩) (zw_preTV (va_recv hK hRc (ci := 4) (q0 := 0) rfl rfl) hX hA0 hA hS hRc (hK.sub (tys' := [(cI, .int), (cW, .object RX3), (cP, .object RX2)]) [0, 1, 2] rfl)) rfl rfl hl.1 rfl (lv_room (Nat.le_of_ble_eq_true rfl)) dL_sum_7 ⟨Nat.le_of_ble_eq_true rfl, Nat.le_of_ble_eq_true rfl⟩) hF hS hA hown [] ⟨0, 12, 15, 13⟩ [⟨0, 12, 19, 17⟩] (htab.trans rfl) (fun _ h => absurd h List.not_mem_nil) rfl (by decide) (hts (.classLink RL 13 "java/lang/IndexOutOfBoundsException") (by decide +kernel)) (z_cast (hts (.initialized "java/lang/IndexOutOfBoundsException") (by decide +kernel))) (fun q H locs hF hS => ?_)
  refine lv_astore (lv' := [(5, .ref q), (0, .ref (ad (4, 0))), (1, .int (zI i)), (2, .int (zI a)), (3, .int (zI x)), (4, .ref (ad (18, 0)))]) hx hb dL_sum_15 hl (by decide) rfl (fun ls hl => ?_)
  have hl := lv_sub hl [1, 2, 3, 4, 5, 0] rfl
  have hl : lv_has ls 6 [(0, .ref (ad (4, 0))), (1, .int (zI i)), (2, .int (zI a)), (3, .int (zI x)), (4, .ref (ad (18, 0))), (5, .ref q)] := hl
  refine z_iconst hx hb dL_sum_17 ?_
  refine W.widen (k := 2) (n := 70) (Nat.le_of_ble_eq_true rfl) (Nat.le_of_ble_eq_true rfl) ?_
  exact zw_iret hx hb hr hlocks (1, o, c, ar) rfl (zWp_err (by decide)) hF hI hKA hS dL_sum_18

set_option maxHeartbeats 4000000 in
set_option maxRecDepth 100000 in
theorem w_sum_e1b (l : Launch) (hl9 : l.stackTraces = false) (D : va_G) (cI cW cP cJ : ClassId) (ad : zk → Nat) (ar : zk → Int → Int) (c : Int → Int) (np : Int) (pp pn : Int → Int) (pg : Int → Option Nat) (o : Nat → Int64) (i : Int) (a : Int) (x : Int) (hYI : zYI ad ar c np pp pn pg) (ha_a : -2147483648 ≤ a ∧ a ≤ 2147483647) (ha_x : -2147483648 ≤ x ∧ x ≤ 2147483647) (hi : 0 ≤ i ∧ i < np) (hba : ¬ (0 ≤ a ∧ a < 4)) : zWC l yL_sum wsL_sum D [(cI, .int), (cW, .object RX3), (cP, .object RX2), (cJ, .long)] (zYK np) (zY cI cW cP cJ ad ar c np pp pn pg o) [.ref (ad (4, 0)), .int (zI i), .int (zI a), .int (zI x), .ref (ad (18, 0))] (S := Int × (Nat → Int64) × (Int → Int) × (zk → Int → Int)) (zWp 1 (sumR (pp i) (pn i) (zRoot (pp i) (pn i)) (fun j => zG ar c a j % pp i) x) False c ar 0 0 (fun _ => 0)) (fun u => some (.int (zI u.1))) (fun _ => zYK np) (fun u => zY cI cW cP cJ ad u.2.2.2 u.2.2.1 np pp pn pg u.2.1) := by
  obtain ⟨hnp, hcr, hgr, hpl⟩ := hYI
  obtain ⟨hpn, hpw, hiq⟩ := hpl i hi
  obtain ⟨⟨hp3, hp4, hp5⟩, hp6, hn1, hn2, hn3⟩ := id hpn
  refine z_startW (cc := cL_sum) (maxL := 6) (ret := some .int) (hh := [(0, 12, 15, 13), (0, 12, 19, 17)]) (own := RL) (by decide) rfl rfl (Nat.le_of_ble_eq_true rfl) [(0, .ref (ad (4, 0))), (1, .int (zI i)), (2, .int (zI a)), (3, .int (zI x)), (4, .ref (ad (18, 0)))] rfl ?_
  intro pp_ ee s mm below meth cc A0 H ls hX hA0 htab hx hb hr hml hts hown hlocks hK hF hI hKA hS hA hl
  have CF : CallFix pp_ mm cc cL_sum 6 s ([.ref (ad (4, 0)), .int (zI i), .int (zI a), .int (zI x), .ref (ad (18, 0))] : List Value).toArray wsL_sum RL := ⟨hx, hb, hml, hown, hts⟩
  refine lv_aload hx hb dL_sum_0 (lv_at hl 4 rfl) ?_
  refine z_iconst hx hb dL_sum_2 ?_
  refine lv_aload_n hx hb dL_sum_3 rfl (lv_at hl 0 rfl) ?_
  refine lv_iload_n hx hb dL_sum_4 rfl (lv_at hl 1 rfl) ?_
  refine lv_iload_n hx hb dL_sum_5 rfl (lv_at hl 2 rfl) ?_
  refine lv_iload_n hx hb dL_sum_6 rfl (lv_at hl 3 rfl) ?_
  have hRc := zf_sub hF [(4, 0), (6, 0)] (List.forall_mem_cons.mpr ⟨zKf 4 rfl rfl, (List.forall_mem_cons.mpr ⟨zKf 6 rfl rfl, (fun _ h => absurd h List.not_mem_nil)⟩)⟩) (wc := [((ad (4, 0)), .inr (4, [.ref (ad (5, 0)), .ref (ad (6, 0)), .int (zI np), .ref (ad (7, 0)), .ref (ad (8, 0)), .ref (ad (9, 0)), .ref (ad (10, 0))])), ((ad (6, 0)), .inl (cP, 8, .inr (.inr (.inr (.inr (fun k : Nat => pg (k : Int)))))))]) rfl
  refine zw_catch (E := "java/lang/IndexOutOfBoundsException") (name := "java/lang/IndexOutOfBoundsException") (own := RL) (vx_runV (As := [.int (zI i), .int (zI a), .int (zI x)]) (rest := [.int (zI 0), .ref (ad (18, 0))]) CF (x_X5_sum_1b l hl9 D cI cW cP (ad (4, 0)) (ad (5, 0)) (ad (6, 0)) np (ad (7, 0)) (ad (8, 0)) (ad (9, 0)) (ad (10, 0)) pg i a x (ad (2, i)) (by first | omega | assumption) (by exact hiq) (by first | omega | assumption) (by first | omega | assumption) A0 H.size) (cwV 3 hts gL_sum_X5_sum rfl rfl rfl (by decide +kernel) ⟨Nat.le_of_ble_eq_true rfl, Nat.le_of_ble_eq_true rfl⟩) (zw_preTV (va_recv hK hRc (ci := 4) (q0 := 0) rfl rfl) hX hA0 hA hS hRc (hK.sub (tys' := [(cI, .int), (cW, .object RX3), (cP, .object RX2)]) [0, 1, 2] rfl)) rfl rfl hl.1 rfl (lv_room (Nat.le_of_ble_eq_true rfl)) dL_sum_7 ⟨Nat.le_of_ble_eq_true rfl, Nat.le_of_ble_eq_true rfl⟩) hF hS hA hown [] ⟨0, 12, 15, 13⟩ [⟨0, 12, 19, 17⟩] (htab.trans rfl) (fun _ h => absurd h List.not_mem_nil) rfl (by decide) (hts (.classLink RL 13 "java/lang/IndexOutOfBoundsException") (by decide +kernel)) (z_cast (hts (.initialized "java/lang/IndexOutOfBoundsException") (by decide +kernel))) (fun q H locs hF hS => ?_)
  refine lv_astore (lv' := [(5, .ref q), (0, .ref (ad (4, 0))), (1, .int (zI i)), (2, .int (zI a)), (3, .int (zI x)), (4, .ref (ad (18, 0)))]) hx hb dL_sum_15 hl (by decide) rfl (fun ls hl => ?_)
  have hl := lv_sub hl [1, 2, 3, 4, 5, 0] rfl
  have hl : lv_has ls 6 [(0, .ref (ad (4, 0))), (1, .int (zI i)), (2, .int (zI a)), (3, .int (zI x)), (4, .ref (ad (18, 0))), (5, .ref q)] := hl
  refine z_iconst hx hb dL_sum_17 ?_
  refine W.widen (k := 2) (n := 70) (Nat.le_of_ble_eq_true rfl) (Nat.le_of_ble_eq_true rfl) ?_
  exact zw_iret hx hb hr hlocks (1, o, c, ar) rfl (zWp_err (by decide)) hF hI hKA hS dL_sum_18

set_option maxHeartbeats 4000000 in
set_option maxRecDepth 100000 in
theorem w_sum_e1c (l : Launch) (hl9 : l.stackTraces = false) (D : va_G) (cI cW cP cJ : ClassId) (ad : zk → Nat) (ar : zk → Int → Int) (c : Int → Int) (np : Int) (pp pn : Int → Int) (pg : Int → Option Nat) (o : Nat → Int64) (i : Int) (a : Int) (x : Int) (hYI : zYI ad ar c np pp pn pg) (ha_x : -2147483648 ≤ x ∧ x ≤ 2147483647) (hi : 0 ≤ i ∧ i < np) (hra : 0 ≤ a ∧ a < 4) (hx_ : ¬ (0 ≤ x ∧ x < pn i)) : zWC l yL_sum wsL_sum D [(cI, .int), (cW, .object RX3), (cP, .object RX2), (cJ, .long)] (zYK np) (zY cI cW cP cJ ad ar c np pp pn pg o) [.ref (ad (4, 0)), .int (zI i), .int (zI a), .int (zI x), .ref (ad (18, 0))] (S := Int × (Nat → Int64) × (Int → Int) × (zk → Int → Int)) (zWp 1 (sumR (pp i) (pn i) (zRoot (pp i) (pn i)) (fun j => zG ar c a j % pp i) x) False c ar 0 0 (fun _ => 0)) (fun u => some (.int (zI u.1))) (fun _ => zYK np) (fun u => zY cI cW cP cJ ad u.2.2.2 u.2.2.1 np pp pn pg u.2.1) := by
  obtain ⟨hnp, hcr, hgr, hpl⟩ := hYI
  have hca_ := hcr a hra
  obtain ⟨hpn, hpw, hiq⟩ := hpl i hi
  obtain ⟨⟨hp3, hp4, hp5⟩, hp6, hn1, hn2, hn3⟩ := id hpn
  refine z_startW (cc := cL_sum) (maxL := 6) (ret := some .int) (hh := [(0, 12, 15, 13), (0, 12, 19, 17)]) (own := RL) (by decide) rfl rfl (Nat.le_of_ble_eq_true rfl) [(0, .ref (ad (4, 0))), (1, .int (zI i)), (2, .int (zI a)), (3, .int (zI x)), (4, .ref (ad (18, 0)))] rfl ?_
  intro pp_ ee s mm below meth cc A0 H ls hX hA0 htab hx hb hr hml hts hown hlocks hK hF hI hKA hS hA hl
  have CF : CallFix pp_ mm cc cL_sum 6 s ([.ref (ad (4, 0)), .int (zI i), .int (zI a), .int (zI x), .ref (ad (18, 0))] : List Value).toArray wsL_sum RL := ⟨hx, hb, hml, hown, hts⟩
  refine lv_aload hx hb dL_sum_0 (lv_at hl 4 rfl) ?_
  refine z_iconst hx hb dL_sum_2 ?_
  refine lv_aload_n hx hb dL_sum_3 rfl (lv_at hl 0 rfl) ?_
  refine lv_iload_n hx hb dL_sum_4 rfl (lv_at hl 1 rfl) ?_
  refine lv_iload_n hx hb dL_sum_5 rfl (lv_at hl 2 rfl) ?_
  refine lv_iload_n hx hb dL_sum_6 rfl (lv_at hl 3 rfl) ?_
  have hRc := zf_sub hF [(4, 0), (5, 0), (6, 0), (2, i)] (List.forall_mem_cons.mpr ⟨zKf 4 rfl rfl, (List.forall_mem_cons.mpr ⟨zKf 5 rfl rfl, (List.forall_mem_cons.mpr ⟨zKf 6 rfl rfl, (List.forall_mem_cons.mpr ⟨zK2 hi, (fun _ h => absurd h List.not_mem_nil)⟩)⟩)⟩)⟩) (wc := [((ad (4, 0)), .inr (4, [.ref (ad (5, 0)), .ref (ad (6, 0)), .int (zI np), .ref (ad (7, 0)), .ref (ad (8, 0)), .ref (ad (9, 0)), .ref (ad (10, 0))])), ((ad (5, 0)), .inl (cW, 4, .inr (.inr (.inr (.inr (fun k : Nat => (zRg ad) (k : Int))))))), ((ad (6, 0)), .inl (cP, 8, .inr (.inr (.inr (.inr (fun k : Nat => pg (k : Int))))))), ((ad (2, i)), .inr (1, [.int (zI (pp i)), .int (zI (pn i)), .int (zI (zInv (pp i) (pn i))), .int (zI (wset (pn i))), .int (zI (zGn (pn i))), .ref (ad (3, i))]))]) rfl
  refine zw_catch (E := "java/lang/IndexOutOfBoundsException") (name := "java/lang/IndexOutOfBoundsException") (own := RL) (vx_runV (As := [.int (zI i), .int (zI a), .int (zI x)]) (rest := [.int (zI 0), .ref (ad (18, 0))]) CF (x_X5_sum_1c l hl9 D cI cW cP (ad (4, 0)) (ad (5, 0)) (ad (6, 0)) np (ad (7, 0)) (ad (8, 0)) (ad (9, 0)) (ad (10, 0)) (zRg ad) pg i a x (ad (2, i)) (pp i) (pn i) (ad (3, i)) (ad (0, a)) (by first | omega | assumption) (by exact hiq) (by first | omega | assumption) (by exact zRg_at hra) (by first | omega | assumption) (by first | omega | assumption) (by first | omega | assumption) A0 H.size) (cwV 3 hts gL_sum_X5_sum rfl rfl rfl (by decide +kernel) ⟨Nat.le_of_ble_eq_true rfl, Nat.le_of_ble_eq_true rfl⟩) (zw_preTV (va_recv hK hRc (ci := 4) (q0 := 0) rfl rfl) hX hA0 hA hS hRc (hK.sub (tys' := [(cI, .int), (cW, .object RX3), (cP, .object RX2)]) [0, 1, 2] rfl)) rfl rfl hl.1 rfl (lv_room (Nat.le_of_ble_eq_true rfl)) dL_sum_7 ⟨Nat.le_of_ble_eq_true rfl, Nat.le_of_ble_eq_true rfl⟩) hF hS hA hown [] ⟨0, 12, 15, 13⟩ [⟨0, 12, 19, 17⟩] (htab.trans rfl) (fun _ h => absurd h List.not_mem_nil) rfl (by decide) (hts (.classLink RL 13 "java/lang/IndexOutOfBoundsException") (by decide +kernel)) (z_cast (hts (.initialized "java/lang/IndexOutOfBoundsException") (by decide +kernel))) (fun q H locs hF hS => ?_)
  refine lv_astore (lv' := [(5, .ref q), (0, .ref (ad (4, 0))), (1, .int (zI i)), (2, .int (zI a)), (3, .int (zI x)), (4, .ref (ad (18, 0)))]) hx hb dL_sum_15 hl (by decide) rfl (fun ls hl => ?_)
  have hl := lv_sub hl [1, 2, 3, 4, 5, 0] rfl
  have hl : lv_has ls 6 [(0, .ref (ad (4, 0))), (1, .int (zI i)), (2, .int (zI a)), (3, .int (zI x)), (4, .ref (ad (18, 0))), (5, .ref q)] := hl
  refine z_iconst hx hb dL_sum_17 ?_
  refine W.widen (k := 2) (n := 70) (Nat.le_of_ble_eq_true rfl) (Nat.le_of_ble_eq_true rfl) ?_
  exact zw_iret hx hb hr hlocks (1, o, c, ar) rfl (zWp_err (by decide)) hF hI hKA hS dL_sum_18

set_option maxHeartbeats 4000000 in
set_option maxRecDepth 100000 in
theorem w_sum_e2 (l : Launch) (hl9 : l.stackTraces = false) (D : va_G) (cI cW cP cJ : ClassId) (ad : zk → Nat) (ar : zk → Int → Int) (c : Int → Int) (np : Int) (pp pn : Int → Int) (pg : Int → Option Nat) (o : Nat → Int64) (i : Int) (a : Int) (x : Int) (hYI : zYI ad ar c np pp pn pg) (hi : 0 ≤ i ∧ i < np) (hra : 0 ≤ a ∧ a < 4) (hx_ : 0 ≤ x ∧ x < pn i) (hfit : pn i < c a) : zWC l yL_sum wsL_sum D [(cI, .int), (cW, .object RX3), (cP, .object RX2), (cJ, .long)] (zYK np) (zY cI cW cP cJ ad ar c np pp pn pg o) [.ref (ad (4, 0)), .int (zI i), .int (zI a), .int (zI x), .ref (ad (18, 0))] (S := Int × (Nat → Int64) × (Int → Int) × (zk → Int → Int)) (zWp 2 (sumR (pp i) (pn i) (zRoot (pp i) (pn i)) (fun j => zG ar c a j % pp i) x) False c ar 0 0 (fun _ => 0)) (fun u => some (.int (zI u.1))) (fun _ => zYK np) (fun u => zY cI cW cP cJ ad u.2.2.2 u.2.2.1 np pp pn pg u.2.1) := by
  obtain ⟨hnp, hcr, hgr, hpl⟩ := hYI
  have hca_ := hcr a hra
  obtain ⟨hpn, hpw, hiq⟩ := hpl i hi
  obtain ⟨⟨hp3, hp4, hp5⟩, hp6, hn1, hn2, hn3⟩ := id hpn
  refine z_startW (cc := cL_sum) (maxL := 6) (ret := some .int) (hh := [(0, 12, 15, 13), (0, 12, 19, 17)]) (own := RL) (by decide) rfl rfl (Nat.le_of_ble_eq_true rfl) [(0, .ref (ad (4, 0))), (1, .int (zI i)), (2, .int (zI a)), (3, .int (zI x)), (4, .ref (ad (18, 0)))] rfl ?_
  intro pp_ ee s mm below meth cc A0 H ls hX hA0 htab hx hb hr hml hts hown hlocks hK hF hI hKA hS hA hl
  have CF : CallFix pp_ mm cc cL_sum 6 s ([.ref (ad (4, 0)), .int (zI i), .int (zI a), .int (zI x), .ref (ad (18, 0))] : List Value).toArray wsL_sum RL := ⟨hx, hb, hml, hown, hts⟩
  refine lv_aload hx hb dL_sum_0 (lv_at hl 4 rfl) ?_
  refine z_iconst hx hb dL_sum_2 ?_
  refine lv_aload_n hx hb dL_sum_3 rfl (lv_at hl 0 rfl) ?_
  refine lv_iload_n hx hb dL_sum_4 rfl (lv_at hl 1 rfl) ?_
  refine lv_iload_n hx hb dL_sum_5 rfl (lv_at hl 2 rfl) ?_
  refine lv_iload_n hx hb dL_sum_6 rfl (lv_at hl 3 rfl) ?_
  have hRc := zf_sub hF [(4, 0), (5, 0), (6, 0), (2, i), (0, a)] (List.forall_mem_cons.mpr ⟨zKf 4 rfl rfl, (List.forall_mem_cons.mpr ⟨zKf 5 rfl rfl, (List.forall_mem_cons.mpr ⟨zKf 6 rfl rfl, (List.forall_mem_cons.mpr ⟨zK2 hi, (List.forall_mem_cons.mpr ⟨zK0 hra, (fun _ h => absurd h List.not_mem_nil)⟩)⟩)⟩)⟩)⟩) (wc := [((ad (4, 0)), .inr (4, [.ref (ad (5, 0)), .ref (ad (6, 0)), .int (zI np), .ref (ad (7, 0)), .ref (ad (8, 0)), .ref (ad (9, 0)), .ref (ad (10, 0))])), ((ad (5, 0)), .inl (cW, 4, .inr (.inr (.inr (.inr (fun k : Nat => (zRg ad) (k : Int))))))), ((ad (6, 0)), .inl (cP, 8, .inr (.inr (.inr (.inr (fun k : Nat => pg (k : Int))))))), ((ad (2, i)), .inr (1, [.int (zI (pp i)), .int (zI (pn i)), .int (zI (zInv (pp i) (pn i))), .int (zI (wset (pn i))), .int (zI (zGn (pn i))), .ref (ad (3, i))])), ((ad (0, a)), .inr (2, [.ref (ad (1, a)), .int (zI (c a))]))]) rfl
  refine zw_catch (E := "java/lang/IllegalStateException") (name := "java/lang/IllegalStateException") (own := RL) (vx_runV (As := [.int (zI i), .int (zI a), .int (zI x)]) (rest := [.int (zI 0), .ref (ad (18, 0))]) CF (x_X5_sum_2 l hl9 D cI cW cP (ad (4, 0)) (ad (5, 0)) (ad (6, 0)) np (ad (7, 0)) (ad (8, 0)) (ad (9, 0)) (ad (10, 0)) (zRg ad) pg i a x (ad (2, i)) (pp i) (pn i) (ad (3, i)) (ad (0, a)) (ad (1, a)) (c a) (by first | omega | assumption) (by exact hiq) (by first | omega | assumption) (by exact zRg_at hra) (by first | omega | assumption) (by first | omega | assumption) A0 H.size) (cwV 3 hts gL_sum_X5_sum rfl rfl rfl (by decide +kernel) ⟨Nat.le_of_ble_eq_true rfl, Nat.le_of_ble_eq_true rfl⟩) (zw_preTV (va_recv hK hRc (ci := 4) (q0 := 0) rfl rfl) hX hA0 hA hS hRc (hK.sub (tys' := [(cI, .int), (cW, .object RX3), (cP, .object RX2)]) [0, 1, 2] rfl)) rfl rfl hl.1 rfl (lv_room (Nat.le_of_ble_eq_true rfl)) dL_sum_7 ⟨Nat.le_of_ble_eq_true rfl, Nat.le_of_ble_eq_true rfl⟩) hF hS hA hown [⟨0, 12, 15, 13⟩] ⟨0, 12, 19, 17⟩ [] (htab.trans rfl) (List.forall_mem_cons.mpr ⟨Or.inr ⟨by decide, _, hts (.classLink RL 13 "java/lang/IndexOutOfBoundsException") (by decide +kernel), hX.2.2.2.2.1⟩, (fun _ h => absurd h List.not_mem_nil)⟩) rfl (by decide) (hts (.classLink RL 17 "java/lang/IllegalStateException") (by decide +kernel)) (z_cast (hts (.initialized "java/lang/IllegalStateException") (by decide +kernel))) (fun q H locs hF hS => ?_)
  refine lv_astore (lv' := [(5, .ref q), (0, .ref (ad (4, 0))), (1, .int (zI i)), (2, .int (zI a)), (3, .int (zI x)), (4, .ref (ad (18, 0)))]) hx hb dL_sum_19 hl (by decide) rfl (fun ls hl => ?_)
  have hl := lv_sub hl [1, 2, 3, 4, 5, 0] rfl
  have hl : lv_has ls 6 [(0, .ref (ad (4, 0))), (1, .int (zI i)), (2, .int (zI a)), (3, .int (zI x)), (4, .ref (ad (18, 0))), (5, .ref q)] := hl
  refine z_iconst hx hb dL_sum_21 ?_
  refine W.widen (k := 2) (n := 70) (Nat.le_of_ble_eq_true rfl) (Nat.le_of_ble_eq_true rfl) ?_
  exact zw_iret hx hb hr hlocks (2, o, c, ar) rfl (zWp_err (by decide)) hF hI hKA hS dL_sum_22

set_option maxHeartbeats 4000000 in
set_option maxRecDepth 100000 in
theorem w_sum_ok (l : Launch) (hl9 : l.stackTraces = false) (D : va_G) (cI cW cP cJ : ClassId) (ad : zk → Nat) (ar : zk → Int → Int) (c : Int → Int) (np : Int) (pp pn : Int → Int) (pg : Int → Option Nat) (o : Nat → Int64) (i : Int) (a : Int) (x : Int) (hYI : zYI ad ar c np pp pn pg) (hi : 0 ≤ i ∧ i < np) (hra : 0 ≤ a ∧ a < 4) (hx_ : 0 ≤ x ∧ x < pn i) (hfit : c a ≤ pn i) : zWC l yL_sum wsL_sum D [(cI, .int), (cW, .object RX3), (cP, .object RX2), (cJ, .long)] (zYK np) (zY cI cW cP cJ ad ar c np pp pn pg o) [.ref (ad (4, 0)), .int (zI i), .int (zI a), .int (zI x), .ref (ad (18, 0))] (S := Int × (Nat → Int64) × (Int → Int) × (zk → Int → Int)) (zWp 0 (sumR (pp i) (pn i) (zRoot (pp i) (pn i)) (fun j => zG ar c a j % pp i) x) False c ar 0 0 (fun _ => 0)) (fun u => some (.int (zI u.1))) (fun _ => zYK np) (fun u => zY cI cW cP cJ ad u.2.2.2 u.2.2.1 np pp pn pg u.2.1) := by
  obtain ⟨hnp, hcr, hgr, hpl⟩ := hYI
  have hca_ := hcr a hra
  obtain ⟨hpn, hpw, hiq⟩ := hpl i hi
  obtain ⟨⟨hp3, hp4, hp5⟩, hp6, hn1, hn2, hn3⟩ := id hpn
  have hvr := dft_rng (p := pp i) (n := pn i) (pw := ar (3, i)) (sz := pn i) (turn := 1) (g := fun j => rowAt (ar (1, a)) (c a) j % pp i) (k := x) (by omega)
  refine z_startW (cc := cL_sum) (maxL := 6) (ret := some .int) (hh := [(0, 12, 15, 13), (0, 12, 19, 17)]) (own := RL) (by decide) rfl rfl (Nat.le_of_ble_eq_true rfl) [(0, .ref (ad (4, 0))), (1, .int (zI i)), (2, .int (zI a)), (3, .int (zI x)), (4, .ref (ad (18, 0)))] rfl ?_
  intro pp_ ee s mm below meth cc A0 H ls hX hA0 htab hx hb hr hml hts hown hlocks hK hF hI hKA hS hA hl
  have CF : CallFix pp_ mm cc cL_sum 6 s ([.ref (ad (4, 0)), .int (zI i), .int (zI a), .int (zI x), .ref (ad (18, 0))] : List Value).toArray wsL_sum RL := ⟨hx, hb, hml, hown, hts⟩
  refine lv_aload hx hb dL_sum_0 (lv_at hl 4 rfl) ?_
  refine z_iconst hx hb dL_sum_2 ?_
  refine lv_aload_n hx hb dL_sum_3 rfl (lv_at hl 0 rfl) ?_
  refine lv_iload_n hx hb dL_sum_4 rfl (lv_at hl 1 rfl) ?_
  refine lv_iload_n hx hb dL_sum_5 rfl (lv_at hl 2 rfl) ?_
  refine lv_iload_n hx hb dL_sum_6 rfl (lv_at hl 3 rfl) ?_
  have hRc := zf_sub hF [(4, 0), (5, 0), (6, 0), (0, a), (1, a), (2, i), (3, i)] (List.forall_mem_cons.mpr ⟨zKf 4 rfl rfl, (List.forall_mem_cons.mpr ⟨zKf 5 rfl rfl, (List.forall_mem_cons.mpr ⟨zKf 6 rfl rfl, (List.forall_mem_cons.mpr ⟨zK0 hra, (List.forall_mem_cons.mpr ⟨zK1 hra, (List.forall_mem_cons.mpr ⟨zK2 hi, (List.forall_mem_cons.mpr ⟨zK3 hi, (fun _ h => absurd h List.not_mem_nil)⟩)⟩)⟩)⟩)⟩)⟩)⟩) (wc := [((ad (4, 0)), .inr (4, [.ref (ad (5, 0)), .ref (ad (6, 0)), .int (zI np), .ref (ad (7, 0)), .ref (ad (8, 0)), .ref (ad (9, 0)), .ref (ad (10, 0))])), ((ad (5, 0)), .inl (cW, 4, .inr (.inr (.inr (.inr (fun k : Nat => (zRg ad) (k : Int))))))), ((ad (6, 0)), .inl (cP, 8, .inr (.inr (.inr (.inr (fun k : Nat => pg (k : Int))))))), ((ad (0, a)), .inr (2, [.ref (ad (1, a)), .int (zI (c a))])), ((ad (1, a)), .inl (cI, 64, .inl (zA (ar (1, a))))), ((ad (2, i)), .inr (1, [.int (zI (pp i)), .int (zI (pn i)), .int (zI (zInv (pp i) (pn i))), .int (zI (wset (pn i))), .int (zI (zGn (pn i))), .ref (ad (3, i))])), ((ad (3, i)), .inl (cI, 64, .inl (zA (ar (3, i)))))]) rfl
  have hPc := zf_sub hF [(9, 0)] (List.forall_mem_cons.mpr ⟨zKf 9 rfl rfl, (fun _ h => absurd h List.not_mem_nil)⟩) (wc := [((ad (9, 0)), .inl (cI, 64, .inl (zA (ar (9, 0)))))]) rfl
  have hDc := zf_subD hI hKA [(9, 0)] (List.forall_mem_cons.mpr ⟨zKf 9 rfl rfl, (fun _ h => absurd h List.not_mem_nil)⟩) (by simp) (wc := [((ad (9, 0)), .inl (cI, 64, .inl (zA (ar (9, 0)))))]) rfl
  have hXc := zf_dis hI [(9, 0)] [(4, 0), (5, 0), (6, 0), (0, a), (1, a), (2, i), (3, i)] (List.forall_mem_cons.mpr ⟨zKf 9 rfl rfl, (fun _ h => absurd h List.not_mem_nil)⟩) (List.forall_mem_cons.mpr ⟨zKf 4 rfl rfl, (List.forall_mem_cons.mpr ⟨zKf 5 rfl rfl, (List.forall_mem_cons.mpr ⟨zKf 6 rfl rfl, (List.forall_mem_cons.mpr ⟨zK0 hra, (List.forall_mem_cons.mpr ⟨zK1 hra, (List.forall_mem_cons.mpr ⟨zK2 hi, (List.forall_mem_cons.mpr ⟨zK3 hi, (fun _ h => absurd h List.not_mem_nil)⟩)⟩)⟩)⟩)⟩)⟩)⟩) (by simp) (wc := [((ad (9, 0)), .inl (cI, 64, .inl (zA (ar (9, 0)))))]) (rc := [((ad (4, 0)), .inr (4, [.ref (ad (5, 0)), .ref (ad (6, 0)), .int (zI np), .ref (ad (7, 0)), .ref (ad (8, 0)), .ref (ad (9, 0)), .ref (ad (10, 0))])), ((ad (5, 0)), .inl (cW, 4, .inr (.inr (.inr (.inr (fun k : Nat => (zRg ad) (k : Int))))))), ((ad (6, 0)), .inl (cP, 8, .inr (.inr (.inr (.inr (fun k : Nat => pg (k : Int))))))), ((ad (0, a)), .inr (2, [.ref (ad (1, a)), .int (zI (c a))])), ((ad (1, a)), .inl (cI, 64, .inl (zA (ar (1, a))))), ((ad (2, i)), .inr (1, [.int (zI (pp i)), .int (zI (pn i)), .int (zI (zInv (pp i) (pn i))), .int (zI (wset (pn i))), .int (zI (zGn (pn i))), .ref (ad (3, i))])), ((ad (3, i)), .inl (cI, 64, .inl (zA (ar (3, i)))))]) rfl rfl
  refine zf_call (wc := [((ad (9, 0)), .inl (cI, 64, .inl (zA (ar (9, 0)))))]) (va_runV (As := [.int (zI i), .int (zI a), .int (zI x)]) (rest := [.int (zI 0), .ref (ad (18, 0))]) CF (c_X5_sum_ok l D cI cW cP (ad (4, 0)) (ad (5, 0)) (ad (6, 0)) np (ad (7, 0)) (ad (8, 0)) (ad (9, 0)) (ad (10, 0)) (zRg ad) pg i a x (ad (2, i)) (pp i) (pn i) (ad (3, i)) (ar (3, i)) (ad (0, a)) (ad (1, a)) (c a) (ar (1, a)) (ar (9, 0)) (by first | omega | assumption) (by exact hiq) (by first | omega | assumption) (by exact zRg_at hra) (by first | omega | assumption) (by first | omega | assumption) (by first | omega | assumption) (by exact hgr a hra) (by first | omega | assumption) (by first | omega | assumption) H.size) (cwV 3 hts gL_sum_X5_sum rfl rfl rfl (by decide +kernel) ⟨Nat.le_of_ble_eq_true rfl, Nat.le_of_ble_eq_true rfl⟩) (z_preV (va_recv hK hRc (ci := 4) (q0 := 0) rfl rfl) hPc hDc hRc hXc (hK.sub (tys' := [(cI, .int), (cW, .object RX3), (cP, .object RX2)]) [0, 1, 2] rfl)) rfl rfl hl.1 rfl (lv_room (Nat.le_of_ble_eq_true rfl)) dL_sum_7 ⟨Nat.le_of_ble_eq_true rfl, Nat.le_of_ble_eq_true rfl⟩) hF hI hKA hS hA [(9, 0)] [(9, 0)] (List.forall_mem_cons.mpr ⟨zKf 9 rfl rfl, (fun _ h => absurd h List.not_mem_nil)⟩) rfl (fun _ => zYK np) (fun gl2 => zY cI cW cP cJ ad (zUA ar (9, 0) gl2) c np pp pn pg o) (fun gl2 hu => by
        show ([(ad (9, 0), .inl (cI, 64, .inl (zA ((zUA ar (9, 0) gl2) (9, 0)))))] : va_W) = _
        rw [show (zUA ar (9, 0) gl2) (9, 0) = gl2 from by simp [zUA]]) (fun gl2 hu k hk => by
        by_cases hm : k ∈ [(9, 0)]
        · exact Or.inl hm
        · refine Or.inr ⟨hk, hm, ?_⟩
          simp only [List.mem_cons, List.not_mem_nil, or_false, not_or] at hm
          exact zY_ext (by simp [zUA, hm]) (fun h0 => rfl)) (cells' := 0) (slots' := 0) rfl rfl (fun gl2 H locs hp_ hF hI hKA hS => ?_)
  have hp_ : True := hp_
  have hF : zFP D (zYK np) (zY cI cW cP cJ ad (zUA ar (9, 0) gl2) c np pp pn pg o) H := hF
  have hI : zIn (zYK np) (zY cI cW cP cJ ad (zUA ar (9, 0) gl2) c np pp pn pg o) := hI
  have hrg_ : -2147483648 ≤ dft (pp i) (pn i) (ar (3, i)) (pn i) 1 (fun j => rowAt (ar (1, a)) (c a) j % (pp i)) x ∧ dft (pp i) (pn i) (ar (3, i)) (pn i) 1 (fun j => rowAt (ar (1, a)) (c a) j % (pp i)) x ≤ 2147483647 := by omega
  refine z_i2l hx hb dL_sum_10 hrg_ ?_
  refine zw_last hx hb hK hF hI hKA hS (ko := (18, 0)) (zKf 18 rfl rfl) (v := dft (pp i) (pn i) (ar (3, i)) (pn i) 1 (fun j => rowAt (ar (1, a)) (c a) j % (pp i)) x) rfl 3 rfl dL_sum_11 (zY cI cW cP cJ ad (zUA ar (9, 0) gl2) c np pp pn pg (vp_updL o 0 (zL (dft (pp i) (pn i) (ar (3, i)) (pn i) 1 (fun j => rowAt (ar (1, a)) (c a) j % (pp i)) x)))) (fun k hk hne => zY_out hk hne) rfl (fun H locs hF hI hKA hS => ?_)
  refine lv_goto (tgt := 23) hx hb dL_sum_12 (by decide) ?_
  refine z_iconst hx hb dL_sum_23 ?_
  refine W.widen (k := 2) (n := 70) (Nat.le_of_ble_eq_true rfl) (Nat.le_of_ble_eq_true rfl) ?_
  have hv_e : dft (pp i) (pn i) (ar (3, i)) (pn i) 1 (fun j => rowAt (ar (1, a)) (c a) j % (pp i)) x = sumR (pp i) (pn i) (zRoot (pp i) (pn i)) (fun j => zG ar c a j % pp i) x := by exact (sumR_fwd hpn hpw hx_.1).symm
  rw [hv_e] at hrg_
  have hv_0 : (vp_updL o 0 (zL (dft (pp i) (pn i) (ar (3, i)) (pn i) 1 (fun j => rowAt (ar (1, a)) (c a) j % (pp i)) x))) 0 = zL (sumR (pp i) (pn i) (zRoot (pp i) (pn i)) (fun j => zG ar c a j % pp i) x) := (show vp_updL o 0 (zL (dft (pp i) (pn i) (ar (3, i)) (pn i) 1 (fun j => rowAt (ar (1, a)) (c a) j % (pp i)) x)) 0 = zL (dft (pp i) (pn i) (ar (3, i)) (pn i) 1 (fun j => rowAt (ar (1, a)) (c a) j % (pp i)) x) from if_pos rfl).trans (congrArg zL hv_e)
  exact zw_iret hx hb hr hlocks (0, vp_updL o 0 (zL (dft (pp i) (pn i) (ar (3, i)) (pn i) 1 (fun j => rowAt (ar (1, a)) (c a) j % (pp i)) x)), c, zUA ar (9, 0) gl2) rfl (zWp_ro hv_0 hrg_ (fun r => by simp [zUA]) (fun j => by simp [zUA])) hF hI hKA hS dL_sum_24

set_option maxHeartbeats 4000000 in
set_option maxRecDepth 100000 in
theorem w_convolve_e1a (l : Launch) (hl9 : l.stackTraces = false) (D : va_G) (cI cW cP cJ : ClassId) (ad : zk → Nat) (ar : zk → Int → Int) (c : Int → Int) (np : Int) (pp pn : Int → Int) (pg : Int → Option Nat) (o : Nat → Int64) (i : Int) (a : Int) (b : Int) (t : Int) (hYI : zYI ad ar c np pp pn pg) (ha_i : -2147483648 ≤ i ∧ i ≤ 2147483647) (ha_a : -2147483648 ≤ a ∧ a ≤ 2147483647) (ha_b : -2147483648 ≤ b ∧ b ≤ 2147483647) (ha_t : -2147483648 ≤ t ∧ t ≤ 2147483647) (hi : ¬ (0 ≤ i ∧ i < np)) : zWC l yL_convolve wsL_convolve D [(cI, .int), (cW, .object RX3), (cP, .object RX2), (cJ, .long)] (zYK np) (zY cI cW cP cJ ad ar c np pp pn pg o) [.ref (ad (4, 0)), .int (zI i), .int (zI a), .int (zI b), .int (zI t), .ref (ad (18, 0))] (S := Int × (Nat → Int64) × (Int → Int) × (zk → Int → Int)) (zWp 1 (pn i) True c ar t (pn i) (cyc (pp i) (pn i) (fun j => zG ar c a j % pp i) (fun j => zG ar c b j % pp i))) (fun u => some (.int (zI u.1))) (fun _ => zYK np) (fun u => zY cI cW cP cJ ad u.2.2.2 u.2.2.1 np pp pn pg u.2.1) := by
  obtain ⟨hnp, hcr, hgr, hpl⟩ := hYI
  refine z_startW (cc := cL_convolve) (maxL := 7) (ret := some .int) (hh := [(0, 14, 17, 13), (0, 14, 21, 17)]) (own := RL) (by decide) rfl rfl (Nat.le_of_ble_eq_true rfl) [(0, .ref (ad (4, 0))), (1, .int (zI i)), (2, .int (zI a)), (3, .int (zI b)), (4, .int (zI t)), (5, .ref (ad (18, 0)))] rfl ?_
  intro pp_ ee s mm below meth cc A0 H ls hX hA0 htab hx hb hr hml hts hown hlocks hK hF hI hKA hS hA hl
  have CF : CallFix pp_ mm cc cL_convolve 7 s ([.ref (ad (4, 0)), .int (zI i), .int (zI a), .int (zI b), .int (zI t), .ref (ad (18, 0))] : List Value).toArray wsL_convolve RL := ⟨hx, hb, hml, hown, hts⟩
  refine lv_aload hx hb dL_convolve_0 (lv_at hl 5 rfl) ?_
  refine z_iconst hx hb dL_convolve_2 ?_
  refine lv_aload_n hx hb dL_convolve_3 rfl (lv_at hl 0 rfl) ?_
  refine lv_iload_n hx hb dL_convolve_4 rfl (lv_at hl 1 rfl) ?_
  refine lv_iload_n hx hb dL_convolve_5 rfl (lv_at hl 2 rfl) ?_
  refine lv_iload_n hx hb dL_convolve_6 rfl (lv_at hl 3 rfl) ?_
  refine lv_iload hx hb dL_convolve_7 (lv_at hl 4 rfl) ?_
  have hRc := zf_sub hF [(4, 0)] (List.forall_mem_cons.mpr ⟨zKf 4 rfl rfl, (fun _ h => absurd h List.not_mem_nil)⟩) (wc := [((ad (4, 0)), .inr (4, [.ref (ad (5, 0)), .ref (ad (6, 0)), .int (zI np), .ref (ad (7, 0)), .ref (ad (8, 0)), .ref (ad (9, 0)), .ref (ad (10, 0))]))]) rfl
  refine zw_catch (E := "java/lang/IndexOutOfBoundsException") (name := "java/lang/IndexOutOfBoundsException") (own := RL) (vx_runV (As := [.int (zI i), .int (zI a), .int (zI b), .int (zI t)]) (rest := [.int (zI 0), .ref (ad (18, 0))]) CF (x_X5_convolve_1a l hl9 D cI cW cP (ad (4, 0)) (ad (5, 0)) (ad (6, 0)) np (ad (7, 0)) (ad (8, 0)) (ad (9, 0)) (ad (10, 0)) i a b t (by first | omega | assumption) (by first | omega | assumption) (by first | omega | assumption) A0 H.size) (cwV 4 hts gL_convolve_X5_convolve rfl rfl rfl (by decide +kernel) ⟨Nat.le_of_ble_eq_true rfl, Nat.le_of_ble_eq_true rfl⟩) (zw_preTV (va_recv hK hRc (ci := 4) (q0 := 0) rfl rfl) hX hA0 hA hS hRc (hK.sub (tys' := [(cI, .int), (cW, .object RX3), (cP, .object RX2)]) [0, 1, 2] rfl)) rfl rfl hl.1 rfl (lv_room (Nat.le_of_ble_eq_true rfl)) dL_convolve_9 ⟨Nat.le_of_ble_eq_true rfl, Nat.le_of_ble_eq_true rfl⟩) hF hS hA hown [] ⟨0, 14, 17, 13⟩ [⟨0, 14, 21, 17⟩] (htab.trans rfl) (fun _ h => absurd h List.not_mem_nil) rfl (by decide) (hts (.classLink RL 13 "java/lang/IndexOutOfBoundsException") (by decide +kernel)) (z_cast (hts (.initialized "java/lang/IndexOutOfBoundsException") (by decide +kernel))) (fun q H locs hF hS => ?_)
  refine lv_astore (lv' := [(6, .ref q), (0, .ref (ad (4, 0))), (1, .int (zI i)), (2, .int (zI a)), (3, .int (zI b)), (4, .int (zI t)), (5, .ref (ad (18, 0)))]) hx hb dL_convolve_17 hl (by decide) rfl (fun ls hl => ?_)
  have hl := lv_sub hl [1, 2, 3, 4, 5, 6, 0] rfl
  have hl : lv_has ls 7 [(0, .ref (ad (4, 0))), (1, .int (zI i)), (2, .int (zI a)), (3, .int (zI b)), (4, .int (zI t)), (5, .ref (ad (18, 0))), (6, .ref q)] := hl
  refine z_iconst hx hb dL_convolve_19 ?_
  refine W.widen (k := 2) (n := 70) (Nat.le_of_ble_eq_true rfl) (Nat.le_of_ble_eq_true rfl) ?_
  exact zw_iret hx hb hr hlocks (1, o, c, ar) rfl (zWp_err (by decide)) hF hI hKA hS dL_convolve_20

set_option maxHeartbeats 4000000 in
set_option maxRecDepth 100000 in
theorem w_convolve_e1b (l : Launch) (hl9 : l.stackTraces = false) (D : va_G) (cI cW cP cJ : ClassId) (ad : zk → Nat) (ar : zk → Int → Int) (c : Int → Int) (np : Int) (pp pn : Int → Int) (pg : Int → Option Nat) (o : Nat → Int64) (i : Int) (a : Int) (b : Int) (t : Int) (hYI : zYI ad ar c np pp pn pg) (ha_a : -2147483648 ≤ a ∧ a ≤ 2147483647) (ha_b : -2147483648 ≤ b ∧ b ≤ 2147483647) (ha_t : -2147483648 ≤ t ∧ t ≤ 2147483647) (hi : 0 ≤ i ∧ i < np) (hba : ¬ (0 ≤ a ∧ a < 4)) : zWC l yL_convolve wsL_convolve D [(cI, .int), (cW, .object RX3), (cP, .object RX2), (cJ, .long)] (zYK np) (zY cI cW cP cJ ad ar c np pp pn pg o) [.ref (ad (4, 0)), .int (zI i), .int (zI a), .int (zI b), .int (zI t), .ref (ad (18, 0))] (S := Int × (Nat → Int64) × (Int → Int) × (zk → Int → Int)) (zWp 1 (pn i) True c ar t (pn i) (cyc (pp i) (pn i) (fun j => zG ar c a j % pp i) (fun j => zG ar c b j % pp i))) (fun u => some (.int (zI u.1))) (fun _ => zYK np) (fun u => zY cI cW cP cJ ad u.2.2.2 u.2.2.1 np pp pn pg u.2.1) := by
  obtain ⟨hnp, hcr, hgr, hpl⟩ := hYI
  obtain ⟨hpn, hpw, hiq⟩ := hpl i hi
  obtain ⟨⟨hp3, hp4, hp5⟩, hp6, hn1, hn2, hn3⟩ := id hpn
  refine z_startW (cc := cL_convolve) (maxL := 7) (ret := some .int) (hh := [(0, 14, 17, 13), (0, 14, 21, 17)]) (own := RL) (by decide) rfl rfl (Nat.le_of_ble_eq_true rfl) [(0, .ref (ad (4, 0))), (1, .int (zI i)), (2, .int (zI a)), (3, .int (zI b)), (4, .int (zI t)), (5, .ref (ad (18, 0)))] rfl ?_
  intro pp_ ee s mm below meth cc A0 H ls hX hA0 htab hx hb hr hml hts hown hlocks hK hF hI hKA hS hA hl
  have CF : CallFix pp_ mm cc cL_convolve 7 s ([.ref (ad (4, 0)), .int (zI i), .int (zI a), .int (zI b), .int (zI t), .ref (ad (18, 0))] : List Value).toArray wsL_convolve RL := ⟨hx, hb, hml, hown, hts⟩
  refine lv_aload hx hb dL_convolve_0 (lv_at hl 5 rfl) ?_
  refine z_iconst hx hb dL_convolve_2 ?_
  refine lv_aload_n hx hb dL_convolve_3 rfl (lv_at hl 0 rfl) ?_
  refine lv_iload_n hx hb dL_convolve_4 rfl (lv_at hl 1 rfl) ?_
  refine lv_iload_n hx hb dL_convolve_5 rfl (lv_at hl 2 rfl) ?_
  refine lv_iload_n hx hb dL_convolve_6 rfl (lv_at hl 3 rfl) ?_
  refine lv_iload hx hb dL_convolve_7 (lv_at hl 4 rfl) ?_
  have hRc := zf_sub hF [(4, 0), (6, 0)] (List.forall_mem_cons.mpr ⟨zKf 4 rfl rfl, (List.forall_mem_cons.mpr ⟨zKf 6 rfl rfl, (fun _ h => absurd h List.not_mem_nil)⟩)⟩) (wc := [((ad (4, 0)), .inr (4, [.ref (ad (5, 0)), .ref (ad (6, 0)), .int (zI np), .ref (ad (7, 0)), .ref (ad (8, 0)), .ref (ad (9, 0)), .ref (ad (10, 0))])), ((ad (6, 0)), .inl (cP, 8, .inr (.inr (.inr (.inr (fun k : Nat => pg (k : Int)))))))]) rfl
  refine zw_catch (E := "java/lang/IndexOutOfBoundsException") (name := "java/lang/IndexOutOfBoundsException") (own := RL) (vx_runV (As := [.int (zI i), .int (zI a), .int (zI b), .int (zI t)]) (rest := [.int (zI 0), .ref (ad (18, 0))]) CF (x_X5_convolve_1b l hl9 D cI cW cP (ad (4, 0)) (ad (5, 0)) (ad (6, 0)) np (ad (7, 0)) (ad (8, 0)) (ad (9, 0)) (ad (10, 0)) pg i a b t (ad (2, i)) (by first | omega | assumption) (by exact hiq) (by first | omega | assumption) (by first | omega | assumption) A0 H.size) (cwV 4 hts gL_convolve_X5_convolve rfl rfl rfl (by decide +kernel) ⟨Nat.le_of_ble_eq_true rfl, Nat.le_of_ble_eq_true rfl⟩) (zw_preTV (va_recv hK hRc (ci := 4) (q0 := 0) rfl rfl) hX hA0 hA hS hRc (hK.sub (tys' := [(cI, .int), (cW, .object RX3), (cP, .object RX2)]) [0, 1, 2] rfl)) rfl rfl hl.1 rfl (lv_room (Nat.le_of_ble_eq_true rfl)) dL_convolve_9 ⟨Nat.le_of_ble_eq_true rfl, Nat.le_of_ble_eq_true rfl⟩) hF hS hA hown [] ⟨0, 14, 17, 13⟩ [⟨0, 14, 21, 17⟩] (htab.trans rfl) (fun _ h => absurd h List.not_mem_nil) rfl (by decide) (hts (.classLink RL 13 "java/lang/IndexOutOfBoundsException") (by decide +kernel)) (z_cast (hts (.initialized "java/lang/IndexOutOfBoundsException") (by decide +kernel))) (fun q H locs hF hS => ?_)
  refine lv_astore (lv' := [(6, .ref q), (0, .ref (ad (4, 0))), (1, .int (zI i)), (2, .int (zI a)), (3, .int (zI b)), (4, .int (zI t)), (5, .ref (ad (18, 0)))]) hx hb dL_convolve_17 hl (by decide) rfl (fun ls hl => ?_)
  have hl := lv_sub hl [1, 2, 3, 4, 5, 6, 0] rfl
  have hl : lv_has ls 7 [(0, .ref (ad (4, 0))), (1, .int (zI i)), (2, .int (zI a)), (3, .int (zI b)), (4, .int (zI t)), (5, .ref (ad (18, 0))), (6, .ref q)] := hl
  refine z_iconst hx hb dL_convolve_19 ?_
  refine W.widen (k := 2) (n := 70) (Nat.le_of_ble_eq_true rfl) (Nat.le_of_ble_eq_true rfl) ?_
  exact zw_iret hx hb hr hlocks (1, o, c, ar) rfl (zWp_err (by decide)) hF hI hKA hS dL_convolve_20

set_option maxHeartbeats 4000000 in
set_option maxRecDepth 100000 in
theorem w_convolve_e1c (l : Launch) (hl9 : l.stackTraces = false) (D : va_G) (cI cW cP cJ : ClassId) (ad : zk → Nat) (ar : zk → Int → Int) (c : Int → Int) (np : Int) (pp pn : Int → Int) (pg : Int → Option Nat) (o : Nat → Int64) (i : Int) (a : Int) (b : Int) (t : Int) (hYI : zYI ad ar c np pp pn pg) (ha_b : -2147483648 ≤ b ∧ b ≤ 2147483647) (ha_t : -2147483648 ≤ t ∧ t ≤ 2147483647) (hi : 0 ≤ i ∧ i < np) (hra : 0 ≤ a ∧ a < 4) (hbb : ¬ (0 ≤ b ∧ b < 4)) : zWC l yL_convolve wsL_convolve D [(cI, .int), (cW, .object RX3), (cP, .object RX2), (cJ, .long)] (zYK np) (zY cI cW cP cJ ad ar c np pp pn pg o) [.ref (ad (4, 0)), .int (zI i), .int (zI a), .int (zI b), .int (zI t), .ref (ad (18, 0))] (S := Int × (Nat → Int64) × (Int → Int) × (zk → Int → Int)) (zWp 1 (pn i) True c ar t (pn i) (cyc (pp i) (pn i) (fun j => zG ar c a j % pp i) (fun j => zG ar c b j % pp i))) (fun u => some (.int (zI u.1))) (fun _ => zYK np) (fun u => zY cI cW cP cJ ad u.2.2.2 u.2.2.1 np pp pn pg u.2.1) := by
  obtain ⟨hnp, hcr, hgr, hpl⟩ := hYI
  have hca_ := hcr a hra
  obtain ⟨hpn, hpw, hiq⟩ := hpl i hi
  obtain ⟨⟨hp3, hp4, hp5⟩, hp6, hn1, hn2, hn3⟩ := id hpn
  refine z_startW (cc := cL_convolve) (maxL := 7) (ret := some .int) (hh := [(0, 14, 17, 13), (0, 14, 21, 17)]) (own := RL) (by decide) rfl rfl (Nat.le_of_ble_eq_true rfl) [(0, .ref (ad (4, 0))), (1, .int (zI i)), (2, .int (zI a)), (3, .int (zI b)), (4, .int (zI t)), (5, .ref (ad (18, 0)))] rfl ?_
  intro pp_ ee s mm below meth cc A0 H ls hX hA0 htab hx hb hr hml hts hown hlocks hK hF hI hKA hS hA hl
  have CF : CallFix pp_ mm cc cL_convolve 7 s ([.ref (ad (4, 0)), .int (zI i), .int (zI a), .int (zI b), .int (zI t), .ref (ad (18, 0))] : List Value).toArray wsL_convolve RL := ⟨hx, hb, hml, hown, hts⟩
  refine lv_aload hx hb dL_convolve_0 (lv_at hl 5 rfl) ?_
  refine z_iconst hx hb dL_convolve_2 ?_
  refine lv_aload_n hx hb dL_convolve_3 rfl (lv_at hl 0 rfl) ?_
  refine lv_iload_n hx hb dL_convolve_4 rfl (lv_at hl 1 rfl) ?_
  refine lv_iload_n hx hb dL_convolve_5 rfl (lv_at hl 2 rfl) ?_
  refine lv_iload_n hx hb dL_convolve_6 rfl (lv_at hl 3 rfl) ?_
  refine lv_iload hx hb dL_convolve_7 (lv_at hl 4 rfl) ?_
  have hRc := zf_sub hF [(4, 0), (5, 0), (6, 0)] (List.forall_mem_cons.mpr ⟨zKf 4 rfl rfl, (List.forall_mem_cons.mpr ⟨zKf 5 rfl rfl, (List.forall_mem_cons.mpr ⟨zKf 6 rfl rfl, (fun _ h => absurd h List.not_mem_nil)⟩)⟩)⟩) (wc := [((ad (4, 0)), .inr (4, [.ref (ad (5, 0)), .ref (ad (6, 0)), .int (zI np), .ref (ad (7, 0)), .ref (ad (8, 0)), .ref (ad (9, 0)), .ref (ad (10, 0))])), ((ad (5, 0)), .inl (cW, 4, .inr (.inr (.inr (.inr (fun k : Nat => (zRg ad) (k : Int))))))), ((ad (6, 0)), .inl (cP, 8, .inr (.inr (.inr (.inr (fun k : Nat => pg (k : Int)))))))]) rfl
  refine zw_catch (E := "java/lang/IndexOutOfBoundsException") (name := "java/lang/IndexOutOfBoundsException") (own := RL) (vx_runV (As := [.int (zI i), .int (zI a), .int (zI b), .int (zI t)]) (rest := [.int (zI 0), .ref (ad (18, 0))]) CF (x_X5_convolve_1c l hl9 D cI cW cP (ad (4, 0)) (ad (5, 0)) (ad (6, 0)) np (ad (7, 0)) (ad (8, 0)) (ad (9, 0)) (ad (10, 0)) (zRg ad) pg i a b t (ad (2, i)) (ad (0, a)) (by first | omega | assumption) (by exact hiq) (by first | omega | assumption) (by exact zRg_at hra) (by first | omega | assumption) (by first | omega | assumption) A0 H.size) (cwV 4 hts gL_convolve_X5_convolve rfl rfl rfl (by decide +kernel) ⟨Nat.le_of_ble_eq_true rfl, Nat.le_of_ble_eq_true rfl⟩) (zw_preTV (va_recv hK hRc (ci := 4) (q0 := 0) rfl rfl) hX hA0 hA hS hRc (hK.sub (tys' := [(cI, .int), (cW, .object RX3), (cP, .object RX2)]) [0, 1, 2] rfl)) rfl rfl hl.1 rfl (lv_room (Nat.le_of_ble_eq_true rfl)) dL_convolve_9 ⟨Nat.le_of_ble_eq_true rfl, Nat.le_of_ble_eq_true rfl⟩) hF hS hA hown [] ⟨0, 14, 17, 13⟩ [⟨0, 14, 21, 17⟩] (htab.trans rfl) (fun _ h => absurd h List.not_mem_nil) rfl (by decide) (hts (.classLink RL 13 "java/lang/IndexOutOfBoundsException") (by decide +kernel)) (z_cast (hts (.initialized "java/lang/IndexOutOfBoundsException") (by decide +kernel))) (fun q H locs hF hS => ?_)
  refine lv_astore (lv' := [(6, .ref q), (0, .ref (ad (4, 0))), (1, .int (zI i)), (2, .int (zI a)), (3, .int (zI b)), (4, .int (zI t)), (5, .ref (ad (18, 0)))]) hx hb dL_convolve_17 hl (by decide) rfl (fun ls hl => ?_)
  have hl := lv_sub hl [1, 2, 3, 4, 5, 6, 0] rfl
  have hl : lv_has ls 7 [(0, .ref (ad (4, 0))), (1, .int (zI i)), (2, .int (zI a)), (3, .int (zI b)), (4, .int (zI t)), (5, .ref (ad (18, 0))), (6, .ref q)] := hl
  refine z_iconst hx hb dL_convolve_19 ?_
  refine W.widen (k := 2) (n := 70) (Nat.le_of_ble_eq_true rfl) (Nat.le_of_ble_eq_true rfl) ?_
  exact zw_iret hx hb hr hlocks (1, o, c, ar) rfl (zWp_err (by decide)) hF hI hKA hS dL_convolve_20

set_option maxHeartbeats 4000000 in
set_option maxRecDepth 100000 in
theorem w_convolve_e1d (l : Launch) (hl9 : l.stackTraces = false) (D : va_G) (cI cW cP cJ : ClassId) (ad : zk → Nat) (ar : zk → Int → Int) (c : Int → Int) (np : Int) (pp pn : Int → Int) (pg : Int → Option Nat) (o : Nat → Int64) (i : Int) (a : Int) (b : Int) (t : Int) (hYI : zYI ad ar c np pp pn pg) (ha_t : -2147483648 ≤ t ∧ t ≤ 2147483647) (hi : 0 ≤ i ∧ i < np) (hra : 0 ≤ a ∧ a < 4) (hrb : 0 ≤ b ∧ b < 4) (hbt : ¬ (0 ≤ t ∧ t < 4)) : zWC l yL_convolve wsL_convolve D [(cI, .int), (cW, .object RX3), (cP, .object RX2), (cJ, .long)] (zYK np) (zY cI cW cP cJ ad ar c np pp pn pg o) [.ref (ad (4, 0)), .int (zI i), .int (zI a), .int (zI b), .int (zI t), .ref (ad (18, 0))] (S := Int × (Nat → Int64) × (Int → Int) × (zk → Int → Int)) (zWp 1 (pn i) True c ar t (pn i) (cyc (pp i) (pn i) (fun j => zG ar c a j % pp i) (fun j => zG ar c b j % pp i))) (fun u => some (.int (zI u.1))) (fun _ => zYK np) (fun u => zY cI cW cP cJ ad u.2.2.2 u.2.2.1 np pp pn pg u.2.1) := by
  obtain ⟨hnp, hcr, hgr, hpl⟩ := hYI
  have hca_ := hcr a hra
  have hcb_ := hcr b hrb
  obtain ⟨hpn, hpw, hiq⟩ := hpl i hi
  obtain ⟨⟨hp3, hp4, hp5⟩, hp6, hn1, hn2, hn3⟩ := id hpn
  refine z_startW (cc := cL_convolve) (maxL := 7) (ret := some .int) (hh := [(0, 14, 17, 13), (0, 14, 21, 17)]) (own := RL) (by decide) rfl rfl (Nat.le_of_ble_eq_true rfl) [(0, .ref (ad (4, 0))), (1, .int (zI i)), (2, .int (zI a)), (3, .int (zI b)), (4, .int (zI t)), (5, .ref (ad (18, 0)))] rfl ?_
  intro pp_ ee s mm below meth cc A0 H ls hX hA0 htab hx hb hr hml hts hown hlocks hK hF hI hKA hS hA hl
  have CF : CallFix pp_ mm cc cL_convolve 7 s ([.ref (ad (4, 0)), .int (zI i), .int (zI a), .int (zI b), .int (zI t), .ref (ad (18, 0))] : List Value).toArray wsL_convolve RL := ⟨hx, hb, hml, hown, hts⟩
  refine lv_aload hx hb dL_convolve_0 (lv_at hl 5 rfl) ?_
  refine z_iconst hx hb dL_convolve_2 ?_
  refine lv_aload_n hx hb dL_convolve_3 rfl (lv_at hl 0 rfl) ?_
  refine lv_iload_n hx hb dL_convolve_4 rfl (lv_at hl 1 rfl) ?_
  refine lv_iload_n hx hb dL_convolve_5 rfl (lv_at hl 2 rfl) ?_
  refine lv_iload_n hx hb dL_convolve_6 rfl (lv_at hl 3 rfl) ?_
  refine lv_iload hx hb dL_convolve_7 (lv_at hl 4 rfl) ?_
  have hRc := zf_sub hF [(4, 0), (5, 0), (6, 0)] (List.forall_mem_cons.mpr ⟨zKf 4 rfl rfl, (List.forall_mem_cons.mpr ⟨zKf 5 rfl rfl, (List.forall_mem_cons.mpr ⟨zKf 6 rfl rfl, (fun _ h => absurd h List.not_mem_nil)⟩)⟩)⟩) (wc := [((ad (4, 0)), .inr (4, [.ref (ad (5, 0)), .ref (ad (6, 0)), .int (zI np), .ref (ad (7, 0)), .ref (ad (8, 0)), .ref (ad (9, 0)), .ref (ad (10, 0))])), ((ad (5, 0)), .inl (cW, 4, .inr (.inr (.inr (.inr (fun k : Nat => (zRg ad) (k : Int))))))), ((ad (6, 0)), .inl (cP, 8, .inr (.inr (.inr (.inr (fun k : Nat => pg (k : Int)))))))]) rfl
  refine zw_catch (E := "java/lang/IndexOutOfBoundsException") (name := "java/lang/IndexOutOfBoundsException") (own := RL) (vx_runV (As := [.int (zI i), .int (zI a), .int (zI b), .int (zI t)]) (rest := [.int (zI 0), .ref (ad (18, 0))]) CF (x_X5_convolve_1d l hl9 D cI cW cP (ad (4, 0)) (ad (5, 0)) (ad (6, 0)) np (ad (7, 0)) (ad (8, 0)) (ad (9, 0)) (ad (10, 0)) (zRg ad) pg i a b t (ad (2, i)) (ad (0, a)) (ad (0, b)) (by first | omega | assumption) (by exact hiq) (by first | omega | assumption) (by exact zRg_at hra) (by first | omega | assumption) (by exact zRg_at hrb) (by first | omega | assumption) (by first | omega | assumption) A0 H.size) (cwV 4 hts gL_convolve_X5_convolve rfl rfl rfl (by decide +kernel) ⟨Nat.le_of_ble_eq_true rfl, Nat.le_of_ble_eq_true rfl⟩) (zw_preTV (va_recv hK hRc (ci := 4) (q0 := 0) rfl rfl) hX hA0 hA hS hRc (hK.sub (tys' := [(cI, .int), (cW, .object RX3), (cP, .object RX2)]) [0, 1, 2] rfl)) rfl rfl hl.1 rfl (lv_room (Nat.le_of_ble_eq_true rfl)) dL_convolve_9 ⟨Nat.le_of_ble_eq_true rfl, Nat.le_of_ble_eq_true rfl⟩) hF hS hA hown [] ⟨0, 14, 17, 13⟩ [⟨0, 14, 21, 17⟩] (htab.trans rfl) (fun _ h => absurd h List.not_mem_nil) rfl (by decide) (hts (.classLink RL 13 "java/lang/IndexOutOfBoundsException") (by decide +kernel)) (z_cast (hts (.initialized "java/lang/IndexOutOfBoundsException") (by decide +kernel))) (fun q H locs hF hS => ?_)
  refine lv_astore (lv' := [(6, .ref q), (0, .ref (ad (4, 0))), (1, .int (zI i)), (2, .int (zI a)), (3, .int (zI b)), (4, .int (zI t)), (5, .ref (ad (18, 0)))]) hx hb dL_convolve_17 hl (by decide) rfl (fun ls hl => ?_)
  have hl := lv_sub hl [1, 2, 3, 4, 5, 6, 0] rfl
  have hl : lv_has ls 7 [(0, .ref (ad (4, 0))), (1, .int (zI i)), (2, .int (zI a)), (3, .int (zI b)), (4, .int (zI t)), (5, .ref (ad (18, 0))), (6, .ref q)] := hl
  refine z_iconst hx hb dL_convolve_19 ?_
  refine W.widen (k := 2) (n := 70) (Nat.le_of_ble_eq_true rfl) (Nat.le_of_ble_eq_true rfl) ?_
  exact zw_iret hx hb hr hlocks (1, o, c, ar) rfl (zWp_err (by decide)) hF hI hKA hS dL_convolve_20

set_option maxHeartbeats 4000000 in
set_option maxRecDepth 100000 in
theorem w_convolve_e2a (l : Launch) (hl9 : l.stackTraces = false) (D : va_G) (cI cW cP cJ : ClassId) (ad : zk → Nat) (ar : zk → Int → Int) (c : Int → Int) (np : Int) (pp pn : Int → Int) (pg : Int → Option Nat) (o : Nat → Int64) (i : Int) (a : Int) (b : Int) (t : Int) (hYI : zYI ad ar c np pp pn pg) (hi : 0 ≤ i ∧ i < np) (hra : 0 ≤ a ∧ a < 4) (hrb : 0 ≤ b ∧ b < 4) (hrt : 0 ≤ t ∧ t < 4) (hfa : pn i < c a) : zWC l yL_convolve wsL_convolve D [(cI, .int), (cW, .object RX3), (cP, .object RX2), (cJ, .long)] (zYK np) (zY cI cW cP cJ ad ar c np pp pn pg o) [.ref (ad (4, 0)), .int (zI i), .int (zI a), .int (zI b), .int (zI t), .ref (ad (18, 0))] (S := Int × (Nat → Int64) × (Int → Int) × (zk → Int → Int)) (zWp 2 (pn i) True c ar t (pn i) (cyc (pp i) (pn i) (fun j => zG ar c a j % pp i) (fun j => zG ar c b j % pp i))) (fun u => some (.int (zI u.1))) (fun _ => zYK np) (fun u => zY cI cW cP cJ ad u.2.2.2 u.2.2.1 np pp pn pg u.2.1) := by
  obtain ⟨hnp, hcr, hgr, hpl⟩ := hYI
  have hca_ := hcr a hra
  have hcb_ := hcr b hrb
  have hct_ := hcr t hrt
  obtain ⟨hpn, hpw, hiq⟩ := hpl i hi
  obtain ⟨⟨hp3, hp4, hp5⟩, hp6, hn1, hn2, hn3⟩ := id hpn
  refine z_startW (cc := cL_convolve) (maxL := 7) (ret := some .int) (hh := [(0, 14, 17, 13), (0, 14, 21, 17)]) (own := RL) (by decide) rfl rfl (Nat.le_of_ble_eq_true rfl) [(0, .ref (ad (4, 0))), (1, .int (zI i)), (2, .int (zI a)), (3, .int (zI b)), (4, .int (zI t)), (5, .ref (ad (18, 0)))] rfl ?_
  intro pp_ ee s mm below meth cc A0 H ls hX hA0 htab hx hb hr hml hts hown hlocks hK hF hI hKA hS hA hl
  have CF : CallFix pp_ mm cc cL_convolve 7 s ([.ref (ad (4, 0)), .int (zI i), .int (zI a), .int (zI b), .int (zI t), .ref (ad (18, 0))] : List Value).toArray wsL_convolve RL := ⟨hx, hb, hml, hown, hts⟩
  refine lv_aload hx hb dL_convolve_0 (lv_at hl 5 rfl) ?_
  refine z_iconst hx hb dL_convolve_2 ?_
  refine lv_aload_n hx hb dL_convolve_3 rfl (lv_at hl 0 rfl) ?_
  refine lv_iload_n hx hb dL_convolve_4 rfl (lv_at hl 1 rfl) ?_
  refine lv_iload_n hx hb dL_convolve_5 rfl (lv_at hl 2 rfl) ?_
  refine lv_iload_n hx hb dL_convolve_6 rfl (lv_at hl 3 rfl) ?_
  refine lv_iload hx hb dL_convolve_7 (lv_at hl 4 rfl) ?_
  have hRc := zf_sub hF [(4, 0), (5, 0), (6, 0), (2, i), (0, a)] (List.forall_mem_cons.mpr ⟨zKf 4 rfl rfl, (List.forall_mem_cons.mpr ⟨zKf 5 rfl rfl, (List.forall_mem_cons.mpr ⟨zKf 6 rfl rfl, (List.forall_mem_cons.mpr ⟨zK2 hi, (List.forall_mem_cons.mpr ⟨zK0 hra, (fun _ h => absurd h List.not_mem_nil)⟩)⟩)⟩)⟩)⟩) (wc := [((ad (4, 0)), .inr (4, [.ref (ad (5, 0)), .ref (ad (6, 0)), .int (zI np), .ref (ad (7, 0)), .ref (ad (8, 0)), .ref (ad (9, 0)), .ref (ad (10, 0))])), ((ad (5, 0)), .inl (cW, 4, .inr (.inr (.inr (.inr (fun k : Nat => (zRg ad) (k : Int))))))), ((ad (6, 0)), .inl (cP, 8, .inr (.inr (.inr (.inr (fun k : Nat => pg (k : Int))))))), ((ad (2, i)), .inr (1, [.int (zI (pp i)), .int (zI (pn i)), .int (zI (zInv (pp i) (pn i))), .int (zI (wset (pn i))), .int (zI (zGn (pn i))), .ref (ad (3, i))])), ((ad (0, a)), .inr (2, [.ref (ad (1, a)), .int (zI (c a))]))]) rfl
  refine zw_catch (E := "java/lang/IllegalStateException") (name := "java/lang/IllegalStateException") (own := RL) (vx_runV (As := [.int (zI i), .int (zI a), .int (zI b), .int (zI t)]) (rest := [.int (zI 0), .ref (ad (18, 0))]) CF (x_X5_convolve_2a l hl9 D cI cW cP (ad (4, 0)) (ad (5, 0)) (ad (6, 0)) np (ad (7, 0)) (ad (8, 0)) (ad (9, 0)) (ad (10, 0)) (zRg ad) pg i a b t (ad (2, i)) (pp i) (pn i) (ad (3, i)) (ad (0, a)) (ad (1, a)) (c a) (ad (0, b)) (ad (0, t)) (by first | omega | assumption) (by exact hiq) (by first | omega | assumption) (by exact zRg_at hra) (by first | omega | assumption) (by exact zRg_at hrb) (by first | omega | assumption) (by exact zRg_at hrt) (by first | omega | assumption) A0 H.size) (cwV 4 hts gL_convolve_X5_convolve rfl rfl rfl (by decide +kernel) ⟨Nat.le_of_ble_eq_true rfl, Nat.le_of_ble_eq_true rfl⟩) (zw_preTV (va_recv hK hRc (ci := 4) (q0 := 0) rfl rfl) hX hA0 hA hS hRc (hK.sub (tys' := [(cI, .int), (cW, .object RX3), (cP, .object RX2)]) [0, 1, 2] rfl)) rfl rfl hl.1 rfl (lv_room (Nat.le_of_ble_eq_true rfl)) dL_convolve_9 ⟨Nat.le_of_ble_eq_true rfl, Nat.le_of_ble_eq_true rfl⟩) hF hS hA hown [⟨0, 14, 17, 13⟩] ⟨0, 14, 21, 17⟩ [] (htab.trans rfl) (List.forall_mem_cons.mpr ⟨Or.inr ⟨by decide, _, hts (.classLink RL 13 "java/lang/IndexOutOfBoundsException") (by decide +kernel), hX.2.2.2.2.1⟩, (fun _ h => absurd h List.not_mem_nil)⟩) rfl (by decide) (hts (.classLink RL 17 "java/lang/IllegalStateException") (by decide +kernel)) (z_cast (hts (.initialized "java/lang/IllegalStateException") (by decide +kernel))) (fun q H locs hF hS => ?_)
  refine lv_astore (lv' := [(6, .ref q), (0, .ref (ad (4, 0))), (1, .int (zI i)), (2, .int (zI a)), (3, .int (zI b)), (4, .int (zI t)), (5, .ref (ad (18, 0)))]) hx hb dL_convolve_21 hl (by decide) rfl (fun ls hl => ?_)
  have hl := lv_sub hl [1, 2, 3, 4, 5, 6, 0] rfl
  have hl : lv_has ls 7 [(0, .ref (ad (4, 0))), (1, .int (zI i)), (2, .int (zI a)), (3, .int (zI b)), (4, .int (zI t)), (5, .ref (ad (18, 0))), (6, .ref q)] := hl
  refine z_iconst hx hb dL_convolve_23 ?_
  refine W.widen (k := 2) (n := 70) (Nat.le_of_ble_eq_true rfl) (Nat.le_of_ble_eq_true rfl) ?_
  exact zw_iret hx hb hr hlocks (2, o, c, ar) rfl (zWp_err (by decide)) hF hI hKA hS dL_convolve_24

set_option maxHeartbeats 4000000 in
set_option maxRecDepth 100000 in
theorem w_convolve_e2b (l : Launch) (hl9 : l.stackTraces = false) (D : va_G) (cI cW cP cJ : ClassId) (ad : zk → Nat) (ar : zk → Int → Int) (c : Int → Int) (np : Int) (pp pn : Int → Int) (pg : Int → Option Nat) (o : Nat → Int64) (i : Int) (a : Int) (b : Int) (t : Int) (hYI : zYI ad ar c np pp pn pg) (hi : 0 ≤ i ∧ i < np) (hra : 0 ≤ a ∧ a < 4) (hrb : 0 ≤ b ∧ b < 4) (hrt : 0 ≤ t ∧ t < 4) (hfa : c a ≤ pn i) (hfb : pn i < c b) : zWC l yL_convolve wsL_convolve D [(cI, .int), (cW, .object RX3), (cP, .object RX2), (cJ, .long)] (zYK np) (zY cI cW cP cJ ad ar c np pp pn pg o) [.ref (ad (4, 0)), .int (zI i), .int (zI a), .int (zI b), .int (zI t), .ref (ad (18, 0))] (S := Int × (Nat → Int64) × (Int → Int) × (zk → Int → Int)) (zWp 2 (pn i) True c ar t (pn i) (cyc (pp i) (pn i) (fun j => zG ar c a j % pp i) (fun j => zG ar c b j % pp i))) (fun u => some (.int (zI u.1))) (fun _ => zYK np) (fun u => zY cI cW cP cJ ad u.2.2.2 u.2.2.1 np pp pn pg u.2.1) := by
  obtain ⟨hnp, hcr, hgr, hpl⟩ := hYI
  have hca_ := hcr a hra
  have hcb_ := hcr b hrb
  have hct_ := hcr t hrt
  obtain ⟨hpn, hpw, hiq⟩ := hpl i hi
  obtain ⟨⟨hp3, hp4, hp5⟩, hp6, hn1, hn2, hn3⟩ := id hpn
  refine z_startW (cc := cL_convolve) (maxL := 7) (ret := some .int) (hh := [(0, 14, 17, 13), (0, 14, 21, 17)]) (own := RL) (by decide) rfl rfl (Nat.le_of_ble_eq_true rfl) [(0, .ref (ad (4, 0))), (1, .int (zI i)), (2, .int (zI a)), (3, .int (zI b)), (4, .int (zI t)), (5, .ref (ad (18, 0)))] rfl ?_
  intro pp_ ee s mm below meth cc A0 H ls hX hA0 htab hx hb hr hml hts hown hlocks hK hF hI hKA hS hA hl
  have CF : CallFix pp_ mm cc cL_convolve 7 s ([.ref (ad (4, 0)), .int (zI i), .int (zI a), .int (zI b), .int (zI t), .ref (ad (18, 0))] : List Value).toArray wsL_convolve RL := ⟨hx, hb, hml, hown, hts⟩
  refine lv_aload hx hb dL_convolve_0 (lv_at hl 5 rfl) ?_
  refine z_iconst hx hb dL_convolve_2 ?_
  refine lv_aload_n hx hb dL_convolve_3 rfl (lv_at hl 0 rfl) ?_
  refine lv_iload_n hx hb dL_convolve_4 rfl (lv_at hl 1 rfl) ?_
  refine lv_iload_n hx hb dL_convolve_5 rfl (lv_at hl 2 rfl) ?_
  refine lv_iload_n hx hb dL_convolve_6 rfl (lv_at hl 3 rfl) ?_
  refine lv_iload hx hb dL_convolve_7 (lv_at hl 4 rfl) ?_
  have hRc := zf_sub hF [(4, 0), (5, 0), (6, 0), (2, i), (0, a), (0, b)] (List.forall_mem_cons.mpr ⟨zKf 4 rfl rfl, (List.forall_mem_cons.mpr ⟨zKf 5 rfl rfl, (List.forall_mem_cons.mpr ⟨zKf 6 rfl rfl, (List.forall_mem_cons.mpr ⟨zK2 hi, (List.forall_mem_cons.mpr ⟨zK0 hra, (List.forall_mem_cons.mpr ⟨zK0 hrb, (fun _ h => absurd h List.not_mem_nil)⟩)⟩)⟩)⟩)⟩)⟩) (wc := [((ad (4, 0)), .inr (4, [.ref (ad (5, 0)), .ref (ad (6, 0)), .int (zI np), .ref (ad (7, 0)), .ref (ad (8, 0)), .ref (ad (9, 0)), .ref (ad (10, 0))])), ((ad (5, 0)), .inl (cW, 4, .inr (.inr (.inr (.inr (fun k : Nat => (zRg ad) (k : Int))))))), ((ad (6, 0)), .inl (cP, 8, .inr (.inr (.inr (.inr (fun k : Nat => pg (k : Int))))))), ((ad (2, i)), .inr (1, [.int (zI (pp i)), .int (zI (pn i)), .int (zI (zInv (pp i) (pn i))), .int (zI (wset (pn i))), .int (zI (zGn (pn i))), .ref (ad (3, i))])), ((ad (0, a)), .inr (2, [.ref (ad (1, a)), .int (zI (c a))])), ((ad (0, b)), .inr (2, [.ref (ad (1, b)), .int (zI (c b))]))]) rfl
  refine zw_catch (E := "java/lang/IllegalStateException") (name := "java/lang/IllegalStateException") (own := RL) (vx_runV (As := [.int (zI i), .int (zI a), .int (zI b), .int (zI t)]) (rest := [.int (zI 0), .ref (ad (18, 0))]) CF (x_X5_convolve_2b l hl9 D cI cW cP (ad (4, 0)) (ad (5, 0)) (ad (6, 0)) np (ad (7, 0)) (ad (8, 0)) (ad (9, 0)) (ad (10, 0)) (zRg ad) pg i a b t (ad (2, i)) (pp i) (pn i) (ad (3, i)) (ad (0, a)) (ad (1, a)) (c a) (ad (0, b)) (ad (1, b)) (c b) (ad (0, t)) (by first | omega | assumption) (by exact hiq) (by first | omega | assumption) (by exact zRg_at hra) (by first | omega | assumption) (by exact zRg_at hrb) (by first | omega | assumption) (by exact zRg_at hrt) (by first | omega | assumption) (by first | omega | assumption) A0 H.size) (cwV 4 hts gL_convolve_X5_convolve rfl rfl rfl (by decide +kernel) ⟨Nat.le_of_ble_eq_true rfl, Nat.le_of_ble_eq_true rfl⟩) (zw_preTV (va_recv hK hRc (ci := 4) (q0 := 0) rfl rfl) hX hA0 hA hS hRc (hK.sub (tys' := [(cI, .int), (cW, .object RX3), (cP, .object RX2)]) [0, 1, 2] rfl)) rfl rfl hl.1 rfl (lv_room (Nat.le_of_ble_eq_true rfl)) dL_convolve_9 ⟨Nat.le_of_ble_eq_true rfl, Nat.le_of_ble_eq_true rfl⟩) hF hS hA hown [⟨0, 14, 17, 13⟩] ⟨0, 14, 21, 17⟩ [] (htab.trans rfl) (List.forall_mem_cons.mpr ⟨Or.inr ⟨by decide, _, hts (.classLink RL 13 "java/lang/IndexOutOfBoundsException") (by decide +kernel), hX.2.2.2.2.1⟩, (fun _ h => absurd h List.not_mem_nil)⟩) rfl (by decide) (hts (.classLink RL 17 "java/lang/IllegalStateException") (by decide +kernel)) (z_cast (hts (.initialized "java/lang/IllegalStateException") (by decide +kernel))) (fun q H locs hF hS => ?_)
  refine lv_astore (lv' := [(6, .ref q), (0, .ref (ad (4, 0))), (1, .int (zI i)), (2, .int (zI a)), (3, .int (zI b)), (4, .int (zI t)), (5, .ref (ad (18, 0)))]) hx hb dL_convolve_21 hl (by decide) rfl (fun ls hl => ?_)
  have hl := lv_sub hl [1, 2, 3, 4, 5, 6, 0] rfl
  have hl : lv_has ls 7 [(0, .ref (ad (4, 0))), (1, .int (zI i)), (2, .int (zI a)), (3, .int (zI b)), (4, .int (zI t)), (5, .ref (ad (18, 0))), (6, .ref q)] := hl
  refine z_iconst hx hb dL_convolve_23 ?_
  refine W.widen (k := 2) (n := 70) (Nat.le_of_ble_eq_true rfl) (Nat.le_of_ble_eq_true rfl) ?_
  exact zw_iret hx hb hr hlocks (2, o, c, ar) rfl (zWp_err (by decide)) hF hI hKA hS dL_convolve_24

set_option maxHeartbeats 4000000 in
set_option maxRecDepth 100000 in
theorem w_convolve_D (l : Launch) (hl9 : l.stackTraces = false) (D : va_G) (cI cW cP cJ : ClassId) (ad : zk → Nat) (ar : zk → Int → Int) (c : Int → Int) (np : Int) (pp pn : Int → Int) (pg : Int → Option Nat) (o : Nat → Int64) (i : Int) (a : Int) (b : Int) (t : Int) (hYI : zYI ad ar c np pp pn pg) (hi : 0 ≤ i ∧ i < np) (hra : 0 ≤ a ∧ a < 4) (hrb : 0 ≤ b ∧ b < 4) (hrt : 0 ≤ t ∧ t < 4) (hfa : c a ≤ pn i) (hfb : c b ≤ pn i) (hta : ¬ t = a) (htb : ¬ t = b) : zWC l yL_convolve wsL_convolve D [(cI, .int), (cW, .object RX3), (cP, .object RX2), (cJ, .long)] (zYK np) (zY cI cW cP cJ ad ar c np pp pn pg o) [.ref (ad (4, 0)), .int (zI i), .int (zI a), .int (zI b), .int (zI t), .ref (ad (18, 0))] (S := Int × (Nat → Int64) × (Int → Int) × (zk → Int → Int)) (zWp 0 (pn i) True c ar t (pn i) (cyc (pp i) (pn i) (fun j => zG ar c a j % pp i) (fun j => zG ar c b j % pp i))) (fun u => some (.int (zI u.1))) (fun _ => zYK np) (fun u => zY cI cW cP cJ ad u.2.2.2 u.2.2.1 np pp pn pg u.2.1) := by
  obtain ⟨hnp, hcr, hgr, hpl⟩ := hYI
  have hca_ := hcr a hra
  have hcb_ := hcr b hrb
  have hct_ := hcr t hrt
  obtain ⟨hpn, hpw, hiq⟩ := hpl i hi
  obtain ⟨⟨hp3, hp4, hp5⟩, hp6, hn1, hn2, hn3⟩ := id hpn
  refine z_startW (cc := cL_convolve) (maxL := 7) (ret := some .int) (hh := [(0, 14, 17, 13), (0, 14, 21, 17)]) (own := RL) (by decide) rfl rfl (Nat.le_of_ble_eq_true rfl) [(0, .ref (ad (4, 0))), (1, .int (zI i)), (2, .int (zI a)), (3, .int (zI b)), (4, .int (zI t)), (5, .ref (ad (18, 0)))] rfl ?_
  intro pp_ ee s mm below meth cc A0 H ls hX hA0 htab hx hb hr hml hts hown hlocks hK hF hI hKA hS hA hl
  have CF : CallFix pp_ mm cc cL_convolve 7 s ([.ref (ad (4, 0)), .int (zI i), .int (zI a), .int (zI b), .int (zI t), .ref (ad (18, 0))] : List Value).toArray wsL_convolve RL := ⟨hx, hb, hml, hown, hts⟩
  refine lv_aload hx hb dL_convolve_0 (lv_at hl 5 rfl) ?_
  refine z_iconst hx hb dL_convolve_2 ?_
  refine lv_aload_n hx hb dL_convolve_3 rfl (lv_at hl 0 rfl) ?_
  refine lv_iload_n hx hb dL_convolve_4 rfl (lv_at hl 1 rfl) ?_
  refine lv_iload_n hx hb dL_convolve_5 rfl (lv_at hl 2 rfl) ?_
  refine lv_iload_n hx hb dL_convolve_6 rfl (lv_at hl 3 rfl) ?_
  refine lv_iload hx hb dL_convolve_7 (lv_at hl 4 rfl) ?_
  have hRc := zf_sub hF [(4, 0), (5, 0), (6, 0), (7, 0), (2, i), (3, i), (0, a), (1, a), (0, b), (1, b)] (List.forall_mem_cons.mpr ⟨zKf 4 rfl rfl, (List.forall_mem_cons.mpr ⟨zKf 5 rfl rfl, (List.forall_mem_cons.mpr ⟨zKf 6 rfl rfl, (List.forall_mem_cons.mpr ⟨zKf 7 rfl rfl, (List.forall_mem_cons.mpr ⟨zK2 hi, (List.forall_mem_cons.mpr ⟨zK3 hi, (List.forall_mem_cons.mpr ⟨zK0 hra, (List.forall_mem_cons.mpr ⟨zK1 hra, (List.forall_mem_cons.mpr ⟨zK0 hrb, (List.forall_mem_cons.mpr ⟨zK1 hrb, (fun _ h => absurd h List.not_mem_nil)⟩)⟩)⟩)⟩)⟩)⟩)⟩)⟩)⟩)⟩) (wc := [((ad (4, 0)), .inr (4, [.ref (ad (5, 0)), .ref (ad (6, 0)), .int (zI np), .ref (ad (7, 0)), .ref (ad (8, 0)), .ref (ad (9, 0)), .ref (ad (10, 0))])), ((ad (5, 0)), .inl (cW, 4, .inr (.inr (.inr (.inr (fun k : Nat => (zRg ad) (k : Int))))))), ((ad (6, 0)), .inl (cP, 8, .inr (.inr (.inr (.inr (fun k : Nat => pg (k : Int))))))), ((ad (7, 0)), .inr (3, [.ref (ad (11, 0)), .ref (ad (12, 0)), .ref (ad (13, 0)), .ref (ad (14, 0)), .ref (ad (15, 0))])), ((ad (2, i)), .inr (1, [.int (zI (pp i)), .int (zI (pn i)), .int (zI (zInv (pp i) (pn i))), .int (zI (wset (pn i))), .int (zI (zGn (pn i))), .ref (ad (3, i))])), ((ad (3, i)), .inl (cI, 64, .inl (zA (ar (3, i))))), ((ad (0, a)), .inr (2, [.ref (ad (1, a)), .int (zI (c a))])), ((ad (1, a)), .inl (cI, 64, .inl (zA (ar (1, a))))), ((ad (0, b)), .inr (2, [.ref (ad (1, b)), .int (zI (c b))])), ((ad (1, b)), .inl (cI, 64, .inl (zA (ar (1, b)))))]) rfl
  have hPc := zf_sub hF [(0, t), (1, t), (9, 0), (10, 0), (11, 0)] (List.forall_mem_cons.mpr ⟨zK0 hrt, (List.forall_mem_cons.mpr ⟨zK1 hrt, (List.forall_mem_cons.mpr ⟨zKf 9 rfl rfl, (List.forall_mem_cons.mpr ⟨zKf 10 rfl rfl, (List.forall_mem_cons.mpr ⟨zKf 11 rfl rfl, (fun _ h => absurd h List.not_mem_nil)⟩)⟩)⟩)⟩)⟩) (wc := [((ad (0, t)), .inr (2, [.ref (ad (1, t)), .int (zI (c t))])), ((ad (1, t)), .inl (cI, 64, .inl (zA (ar (1, t))))), ((ad (9, 0)), .inl (cI, 64, .inl (zA (ar (9, 0))))), ((ad (10, 0)), .inl (cI, 64, .inl (zA (ar (10, 0))))), ((ad (11, 0)), .inl (cI, 64, .inl (zA (ar (11, 0)))))]) rfl
  have hDc := zf_subD hI hKA [(0, t), (1, t), (9, 0), (10, 0), (11, 0)] (List.forall_mem_cons.mpr ⟨zK0 hrt, (List.forall_mem_cons.mpr ⟨zK1 hrt, (List.forall_mem_cons.mpr ⟨zKf 9 rfl rfl, (List.forall_mem_cons.mpr ⟨zKf 10 rfl rfl, (List.forall_mem_cons.mpr ⟨zKf 11 rfl rfl, (fun _ h => absurd h List.not_mem_nil)⟩)⟩)⟩)⟩)⟩) (by simp) (wc := [((ad (0, t)), .inr (2, [.ref (ad (1, t)), .int (zI (c t))])), ((ad (1, t)), .inl (cI, 64, .inl (zA (ar (1, t))))), ((ad (9, 0)), .inl (cI, 64, .inl (zA (ar (9, 0))))), ((ad (10, 0)), .inl (cI, 64, .inl (zA (ar (10, 0))))), ((ad (11, 0)), .inl (cI, 64, .inl (zA (ar (11, 0)))))]) rfl
  have hXc := zf_dis hI [(0, t), (1, t), (9, 0), (10, 0), (11, 0)] [(4, 0), (5, 0), (6, 0), (7, 0), (2, i), (3, i), (0, a), (1, a), (0, b), (1, b)] (List.forall_mem_cons.mpr ⟨zK0 hrt, (List.forall_mem_cons.mpr ⟨zK1 hrt, (List.forall_mem_cons.mpr ⟨zKf 9 rfl rfl, (List.forall_mem_cons.mpr ⟨zKf 10 rfl rfl, (List.forall_mem_cons.mpr ⟨zKf 11 rfl rfl, (fun _ h => absurd h List.not_mem_nil)⟩)⟩)⟩)⟩)⟩) (List.forall_mem_cons.mpr ⟨zKf 4 rfl rfl, (List.forall_mem_cons.mpr ⟨zKf 5 rfl rfl, (List.forall_mem_cons.mpr ⟨zKf 6 rfl rfl, (List.forall_mem_cons.mpr ⟨zKf 7 rfl rfl, (List.forall_mem_cons.mpr ⟨zK2 hi, (List.forall_mem_cons.mpr ⟨zK3 hi, (List.forall_mem_cons.mpr ⟨zK0 hra, (List.forall_mem_cons.mpr ⟨zK1 hra, (List.forall_mem_cons.mpr ⟨zK0 hrb, (List.forall_mem_cons.mpr ⟨zK1 hrb, (fun _ h => absurd h List.not_mem_nil)⟩)⟩)⟩)⟩)⟩)⟩)⟩)⟩)⟩)⟩) (by simp [show ¬ a = t from fun h => hta h.symm, show ¬ b = t from fun h => htb h.symm]) (wc := [((ad (0, t)), .inr (2, [.ref (ad (1, t)), .int (zI (c t))])), ((ad (1, t)), .inl (cI, 64, .inl (zA (ar (1, t))))), ((ad (9, 0)), .inl (cI, 64, .inl (zA (ar (9, 0))))), ((ad (10, 0)), .inl (cI, 64, .inl (zA (ar (10, 0))))), ((ad (11, 0)), .inl (cI, 64, .inl (zA (ar (11, 0)))))]) (rc := [((ad (4, 0)), .inr (4, [.ref (ad (5, 0)), .ref (ad (6, 0)), .int (zI np), .ref (ad (7, 0)), .ref (ad (8, 0)), .ref (ad (9, 0)), .ref (ad (10, 0))])), ((ad (5, 0)), .inl (cW, 4, .inr (.inr (.inr (.inr (fun k : Nat => (zRg ad) (k : Int))))))), ((ad (6, 0)), .inl (cP, 8, .inr (.inr (.inr (.inr (fun k : Nat => pg (k : Int))))))), ((ad (7, 0)), .inr (3, [.ref (ad (11, 0)), .ref (ad (12, 0)), .ref (ad (13, 0)), .ref (ad (14, 0)), .ref (ad (15, 0))])), ((ad (2, i)), .inr (1, [.int (zI (pp i)), .int (zI (pn i)), .int (zI (zInv (pp i) (pn i))), .int (zI (wset (pn i))), .int (zI (zGn (pn i))), .ref (ad (3, i))])), ((ad (3, i)), .inl (cI, 64, .inl (zA (ar (3, i))))), ((ad (0, a)), .inr (2, [.ref (ad (1, a)), .int (zI (c a))])), ((ad (1, a)), .inl (cI, 64, .inl (zA (ar (1, a))))), ((ad (0, b)), .inr (2, [.ref (ad (1, b)), .int (zI (c b))])), ((ad (1, b)), .inl (cI, 64, .inl (zA (ar (1, b)))))]) rfl rfl
  refine zf_call (wc := [((ad (0, t)), .inr (2, [.ref (ad (1, t)), .int (zI (c t))])), ((ad (1, t)), .inl (cI, 64, .inl (zA (ar (1, t))))), ((ad (9, 0)), .inl (cI, 64, .inl (zA (ar (9, 0))))), ((ad (10, 0)), .inl (cI, 64, .inl (zA (ar (10, 0))))), ((ad (11, 0)), .inl (cI, 64, .inl (zA (ar (11, 0)))))]) (va_runV (As := [.int (zI i), .int (zI a), .int (zI b), .int (zI t)]) (rest := [.int (zI 0), .ref (ad (18, 0))]) CF (c_X5_convolve_D l D cI cW cP (ad (4, 0)) (ad (5, 0)) (ad (6, 0)) np (ad (7, 0)) (ad (8, 0)) (ad (9, 0)) (ad (10, 0)) (zRg ad) pg (ad (11, 0)) (ad (12, 0)) (ad (13, 0)) (ad (14, 0)) (ad (15, 0)) i a b t (ad (2, i)) (pp i) (pn i) (ad (3, i)) (ar (3, i)) (ad (0, a)) (ad (1, a)) (c a) (ar (1, a)) (ad (0, b)) (ad (1, b)) (c b) (ar (1, b)) (ad (0, t)) (ad (1, t)) (c t) (ar (1, t)) (ar (9, 0)) (ar (10, 0)) (ar (11, 0)) (by first | omega | assumption) (by exact hiq) (by first | omega | assumption) (by exact zRg_at hra) (by first | omega | assumption) (by exact zRg_at hrb) (by first | omega | assumption) (by exact zRg_at hrt) (by first | omega | assumption) (by first | omega | assumption) (by first | omega | assumption) (by first | omega | assumption) (by exact hgr a hra) (by exact hgr b hrb) (by first | omega | assumption) (by first | omega | assumption) H.size) (cwV 4 hts gL_convolve_X5_convolve rfl rfl rfl (by decide +kernel) ⟨Nat.le_of_ble_eq_true rfl, Nat.le_of_ble_eq_true rfl⟩) (z_preV (va_recv hK hRc (ci := 4) (q0 := 0) rfl rfl) hPc hDc hRc hXc (hK.sub (tys' := [(cI, .int), (cW, .object RX3), (cP, .object RX2)]) [0, 1, 2] rfl)) rfl rfl hl.1 rfl (lv_room (Nat.le_of_ble_eq_true rfl)) dL_convolve_9 ⟨Nat.le_of_ble_eq_true rfl, Nat.le_of_ble_eq_true rfl⟩) hF hI hKA hS hA [(0, t), (1, t), (9, 0), (10, 0), (11, 0)] [(0, t), (1, t), (9, 0), (10, 0), (11, 0)] (List.forall_mem_cons.mpr ⟨zK0 hrt, (List.forall_mem_cons.mpr ⟨zK1 hrt, (List.forall_mem_cons.mpr ⟨zKf 9 rfl rfl, (List.forall_mem_cons.mpr ⟨zKf 10 rfl rfl, (List.forall_mem_cons.mpr ⟨zKf 11 rfl rfl, (fun _ h => absurd h List.not_mem_nil)⟩)⟩)⟩)⟩)⟩) rfl (fun _ => zYK np) (fun (a2, gl2, gr2, gm2) => zY cI cW cP cJ ad (zUA (zUA (zUA (zUA ar (1, t) a2) (9, 0) gl2) (10, 0) gr2) (11, 0) gm2) (zU c t (pn i)) np pp pn pg o) (fun u hu => by
        obtain ⟨a2, gl2, gr2, gm2⟩ := u
        show ([(ad (0, t), .inr (2, [.ref (ad (1, t)), .int (zI ((zU c t (pn i)) t))])), (ad (1, t), .inl (cI, 64, .inl (zA ((zUA (zUA (zUA (zUA ar (1, t) a2) (9, 0) gl2) (10, 0) gr2) (11, 0) gm2) (1, t))))), (ad (9, 0), .inl (cI, 64, .inl (zA ((zUA (zUA (zUA (zUA ar (1, t) a2) (9, 0) gl2) (10, 0) gr2) (11, 0) gm2) (9, 0))))), (ad (10, 0), .inl (cI, 64, .inl (zA ((zUA (zUA (zUA (zUA ar (1, t) a2) (9, 0) gl2) (10, 0) gr2) (11, 0) gm2) (10, 0))))), (ad (11, 0), .inl (cI, 64, .inl (zA ((zUA (zUA (zUA (zUA ar (1, t) a2) (9, 0) gl2) (10, 0) gr2) (11, 0) gm2) (11, 0)))))] : va_W) = _
        rw [show (zU c t (pn i)) t = (pn i) from zU_s _ _ _, show (zUA (zUA (zUA (zUA ar (1, t) a2) (9, 0) gl2) (10, 0) gr2) (11, 0) gm2) (1, t) = a2 from by simp [zUA], show (zUA (zUA (zUA (zUA ar (1, t) a2) (9, 0) gl2) (10, 0) gr2) (11, 0) gm2) (9, 0) = gl2 from by simp [zUA], show (zUA (zUA (zUA (zUA ar (1, t) a2) (9, 0) gl2) (10, 0) gr2) (11, 0) gm2) (10, 0) = gr2 from by simp [zUA], show (zUA (zUA (zUA (zUA ar (1, t) a2) (9, 0) gl2) (10, 0) gr2) (11, 0) gm2) (11, 0) = gm2 from by simp [zUA]]) (fun u hu k hk => by
        obtain ⟨a2, gl2, gr2, gm2⟩ := u
        by_cases hm : k ∈ [(0, t), (1, t), (9, 0), (10, 0), (11, 0)]
        · exact Or.inl hm
        · refine Or.inr ⟨hk, hm, ?_⟩
          simp only [List.mem_cons, List.not_mem_nil, or_false, not_or] at hm
          exact zY_ext (by simp [zUA, hm]) (fun h0 => zU_n _ _ (fun h1 => hm.1 (Prod.ext h0 h1)))) (cells' := 0) (slots' := 0) rfl rfl (fun u H locs hp_ hF hI hKA hS => ?_)
  obtain ⟨a2, gl2, gr2, gm2⟩ := u
  have hp_ : ∀ k, 0 ≤ k → k < (pn i) → a2 k = cyc (pp i) (pn i) (fun j => rowAt (ar (1, a)) (c a) j % (pp i)) (fun j => rowAt (ar (1, b)) (c b) j % (pp i))  k := hp_
  have hF : zFP D (zYK np) (zY cI cW cP cJ ad (zUA (zUA (zUA (zUA ar (1, t) a2) (9, 0) gl2) (10, 0) gr2) (11, 0) gm2) (zU c t (pn i)) np pp pn pg o) H := hF
  have hI : zIn (zYK np) (zY cI cW cP cJ ad (zUA (zUA (zUA (zUA ar (1, t) a2) (9, 0) gl2) (10, 0) gr2) (11, 0) gm2) (zU c t (pn i)) np pp pn pg o) := hI
  have hrg_ : -2147483648 ≤ (pn i) ∧ (pn i) ≤ 2147483647 := by omega
  refine z_i2l hx hb dL_convolve_12 hrg_ ?_
  refine zw_last hx hb hK hF hI hKA hS (ko := (18, 0)) (zKf 18 rfl rfl) (v := (pn i)) rfl 3 rfl dL_convolve_13 (zY cI cW cP cJ ad (zUA (zUA (zUA (zUA ar (1, t) a2) (9, 0) gl2) (10, 0) gr2) (11, 0) gm2) (zU c t (pn i)) np pp pn pg (vp_updL o 0 (zL (pn i)))) (fun k hk hne => zY_out hk hne) rfl (fun H locs hF hI hKA hS => ?_)
  refine lv_goto (tgt := 25) hx hb dL_convolve_14 (by decide) ?_
  refine z_iconst hx hb dL_convolve_25 ?_
  refine W.widen (k := 2) (n := 70) (Nat.le_of_ble_eq_true rfl) (Nat.le_of_ble_eq_true rfl) ?_
  have hv_e : (pn i) = pn i := by rfl
  rw [hv_e] at hrg_
  have hv_0 : (vp_updL o 0 (zL (pn i))) 0 = zL (pn i) := (show vp_updL o 0 (zL (pn i)) 0 = zL (pn i) from if_pos rfl).trans (congrArg zL hv_e)
  have hv_1 : ∀ k, 0 ≤ k → k < pn i → (zUA (zUA (zUA (zUA ar (1, t) a2) (9, 0) gl2) (10, 0) gr2) (11, 0) gm2) (1, t) k = (cyc (pp i) (pn i) (fun j => zG ar c a j % pp i) (fun j => zG ar c b j % pp i)) k := by
    intro k h1 h2
    rw [show (zUA (zUA (zUA (zUA ar (1, t) a2) (9, 0) gl2) (10, 0) gr2) (11, 0) gm2) (1, t) = a2 from by simp [zUA]]
    exact hp_ k h1 h2
  exact zw_iret hx hb hr hlocks (0, vp_updL o 0 (zL (pn i)), zU c t (pn i), zUA (zUA (zUA (zUA ar (1, t) a2) (9, 0) gl2) (10, 0) gr2) (11, 0) gm2) rfl (zWp_mu hv_0 hrg_ rfl hv_1 (fun r hr_ => by simp [zUA, hr_]) (fun j => by simp [zUA])) hF hI hKA hS dL_convolve_26

set_option maxHeartbeats 4000000 in
set_option maxRecDepth 100000 in
theorem w_convolve_A (l : Launch) (hl9 : l.stackTraces = false) (D : va_G) (cI cW cP cJ : ClassId) (ad : zk → Nat) (ar : zk → Int → Int) (c : Int → Int) (np : Int) (pp pn : Int → Int) (pg : Int → Option Nat) (o : Nat → Int64) (i : Int) (a : Int) (b : Int) (t : Int) (hYI : zYI ad ar c np pp pn pg) (hi : 0 ≤ i ∧ i < np) (hra : 0 ≤ a ∧ a < 4) (hrb : 0 ≤ b ∧ b < 4) (hrt : 0 ≤ t ∧ t < 4) (hfa : c a ≤ pn i) (hfb : c b ≤ pn i) (hta : a = t) (hba : ¬ b = a) : zWC l yL_convolve wsL_convolve D [(cI, .int), (cW, .object RX3), (cP, .object RX2), (cJ, .long)] (zYK np) (zY cI cW cP cJ ad ar c np pp pn pg o) [.ref (ad (4, 0)), .int (zI i), .int (zI a), .int (zI b), .int (zI t), .ref (ad (18, 0))] (S := Int × (Nat → Int64) × (Int → Int) × (zk → Int → Int)) (zWp 0 (pn i) True c ar t (pn i) (cyc (pp i) (pn i) (fun j => zG ar c a j % pp i) (fun j => zG ar c b j % pp i))) (fun u => some (.int (zI u.1))) (fun _ => zYK np) (fun u => zY cI cW cP cJ ad u.2.2.2 u.2.2.1 np pp pn pg u.2.1) := by
  obtain ⟨hnp, hcr, hgr, hpl⟩ := hYI
  have hca_ := hcr a hra
  have hcb_ := hcr b hrb
  have hct_ := hcr t hrt
  obtain ⟨hpn, hpw, hiq⟩ := hpl i hi
  obtain ⟨⟨hp3, hp4, hp5⟩, hp6, hn1, hn2, hn3⟩ := id hpn
  subst hta
  refine z_startW (cc := cL_convolve) (maxL := 7) (ret := some .int) (hh := [(0, 14, 17, 13), (0, 14, 21, 17)]) (own := RL) (by decide) rfl rfl (Nat.le_of_ble_eq_true rfl) [(0, .ref (ad (4, 0))), (1, .int (zI i)), (2, .int (zI a)), (3, .int (zI b)), (4, .int (zI a)), (5, .ref (ad (18, 0)))] rfl ?_
  intro pp_ ee s mm below meth cc A0 H ls hX hA0 htab hx hb hr hml hts hown hlocks hK hF hI hKA hS hA hl
  have CF : CallFix pp_ mm cc cL_convolve 7 s ([.ref (ad (4, 0)), .int (zI i), .int (zI a), .int (zI b), .int (zI a), .ref (ad (18, 0))] : List Value).toArray wsL_convolve RL := ⟨hx, hb, hml, hown, hts⟩
  refine lv_aload hx hb dL_convolve_0 (lv_at hl 5 rfl) ?_
  refine z_iconst hx hb dL_convolve_2 ?_
  refine lv_aload_n hx hb dL_convolve_3 rfl (lv_at hl 0 rfl) ?_
  refine lv_iload_n hx hb dL_convolve_4 rfl (lv_at hl 1 rfl) ?_
  refine lv_iload_n hx hb dL_convolve_5 rfl (lv_at hl 2 rfl) ?_
  refine lv_iload_n hx hb dL_convolve_6 rfl (lv_at hl 3 rfl) ?_
  refine lv_iload hx hb dL_convolve_7 (lv_at hl 4 rfl) ?_
  have hRc := zf_sub hF [(4, 0), (5, 0), (6, 0), (7, 0), (2, i), (3, i), (0, b), (1, b)] (List.forall_mem_cons.mpr ⟨zKf 4 rfl rfl, (List.forall_mem_cons.mpr ⟨zKf 5 rfl rfl, (List.forall_mem_cons.mpr ⟨zKf 6 rfl rfl, (List.forall_mem_cons.mpr ⟨zKf 7 rfl rfl, (List.forall_mem_cons.mpr ⟨zK2 hi, (List.forall_mem_cons.mpr ⟨zK3 hi, (List.forall_mem_cons.mpr ⟨zK0 hrb, (List.forall_mem_cons.mpr ⟨zK1 hrb, (fun _ h => absurd h List.not_mem_nil)⟩)⟩)⟩)⟩)⟩)⟩)⟩)⟩) (wc := [((ad (4, 0)), .inr (4, [.ref (ad (5, 0)), .ref (ad (6, 0)), .int (zI np), .ref (ad (7, 0)), .ref (ad (8, 0)), .ref (ad (9, 0)), .ref (ad (10, 0))])), ((ad (5, 0)), .inl (cW, 4, .inr (.inr (.inr (.inr (fun k : Nat => (zRg ad) (k : Int))))))), ((ad (6, 0)), .inl (cP, 8, .inr (.inr (.inr (.inr (fun k : Nat => pg (k : Int))))))), ((ad (7, 0)), .inr (3, [.ref (ad (11, 0)), .ref (ad (12, 0)), .ref (ad (13, 0)), .ref (ad (14, 0)), .ref (ad (15, 0))])), ((ad (2, i)), .inr (1, [.int (zI (pp i)), .int (zI (pn i)), .int (zI (zInv (pp i) (pn i))), .int (zI (wset (pn i))), .int (zI (zGn (pn i))), .ref (ad (3, i))])), ((ad (3, i)), .inl (cI, 64, .inl (zA (ar (3, i))))), ((ad (0, b)), .inr (2, [.ref (ad (1, b)), .int (zI (c b))])), ((ad (1, b)), .inl (cI, 64, .inl (zA (ar (1, b)))))]) rfl
  have hPc := zf_sub hF [(0, a), (1, a), (9, 0), (10, 0), (11, 0)] (List.forall_mem_cons.mpr ⟨zK0 hra, (List.forall_mem_cons.mpr ⟨zK1 hra, (List.forall_mem_cons.mpr ⟨zKf 9 rfl rfl, (List.forall_mem_cons.mpr ⟨zKf 10 rfl rfl, (List.forall_mem_cons.mpr ⟨zKf 11 rfl rfl, (fun _ h => absurd h List.not_mem_nil)⟩)⟩)⟩)⟩)⟩) (wc := [((ad (0, a)), .inr (2, [.ref (ad (1, a)), .int (zI (c a))])), ((ad (1, a)), .inl (cI, 64, .inl (zA (ar (1, a))))), ((ad (9, 0)), .inl (cI, 64, .inl (zA (ar (9, 0))))), ((ad (10, 0)), .inl (cI, 64, .inl (zA (ar (10, 0))))), ((ad (11, 0)), .inl (cI, 64, .inl (zA (ar (11, 0)))))]) rfl
  have hDc := zf_subD hI hKA [(0, a), (1, a), (9, 0), (10, 0), (11, 0)] (List.forall_mem_cons.mpr ⟨zK0 hra, (List.forall_mem_cons.mpr ⟨zK1 hra, (List.forall_mem_cons.mpr ⟨zKf 9 rfl rfl, (List.forall_mem_cons.mpr ⟨zKf 10 rfl rfl, (List.forall_mem_cons.mpr ⟨zKf 11 rfl rfl, (fun _ h => absurd h List.not_mem_nil)⟩)⟩)⟩)⟩)⟩) (by simp) (wc := [((ad (0, a)), .inr (2, [.ref (ad (1, a)), .int (zI (c a))])), ((ad (1, a)), .inl (cI, 64, .inl (zA (ar (1, a))))), ((ad (9, 0)), .inl (cI, 64, .inl (zA (ar (9, 0))))), ((ad (10, 0)), .inl (cI, 64, .inl (zA (ar (10, 0))))), ((ad (11, 0)), .inl (cI, 64, .inl (zA (ar (11, 0)))))]) rfl
  have hXc := zf_dis hI [(0, a), (1, a), (9, 0), (10, 0), (11, 0)] [(4, 0), (5, 0), (6, 0), (7, 0), (2, i), (3, i), (0, b), (1, b)] (List.forall_mem_cons.mpr ⟨zK0 hra, (List.forall_mem_cons.mpr ⟨zK1 hra, (List.forall_mem_cons.mpr ⟨zKf 9 rfl rfl, (List.forall_mem_cons.mpr ⟨zKf 10 rfl rfl, (List.forall_mem_cons.mpr ⟨zKf 11 rfl rfl, (fun _ h => absurd h List.not_mem_nil)⟩)⟩)⟩)⟩)⟩) (List.forall_mem_cons.mpr ⟨zKf 4 rfl rfl, (List.forall_mem_cons.mpr ⟨zKf 5 rfl rfl, (List.forall_mem_cons.mpr ⟨zKf 6 rfl rfl, (List.forall_mem_cons.mpr ⟨zKf 7 rfl rfl, (List.forall_mem_cons.mpr ⟨zK2 hi, (List.forall_mem_cons.mpr ⟨zK3 hi, (List.forall_mem_cons.mpr ⟨zK0 hrb, (List.forall_mem_cons.mpr ⟨zK1 hrb, (fun _ h => absurd h List.not_mem_nil)⟩)⟩)⟩)⟩)⟩)⟩)⟩)⟩) (by simp [hba]) (wc := [((ad (0, a)), .inr (2, [.ref (ad (1, a)), .int (zI (c a))])), ((ad (1, a)), .inl (cI, 64, .inl (zA (ar (1, a))))), ((ad (9, 0)), .inl (cI, 64, .inl (zA (ar (9, 0))))), ((ad (10, 0)), .inl (cI, 64, .inl (zA (ar (10, 0))))), ((ad (11, 0)), .inl (cI, 64, .inl (zA (ar (11, 0)))))]) (rc := [((ad (4, 0)), .inr (4, [.ref (ad (5, 0)), .ref (ad (6, 0)), .int (zI np), .ref (ad (7, 0)), .ref (ad (8, 0)), .ref (ad (9, 0)), .ref (ad (10, 0))])), ((ad (5, 0)), .inl (cW, 4, .inr (.inr (.inr (.inr (fun k : Nat => (zRg ad) (k : Int))))))), ((ad (6, 0)), .inl (cP, 8, .inr (.inr (.inr (.inr (fun k : Nat => pg (k : Int))))))), ((ad (7, 0)), .inr (3, [.ref (ad (11, 0)), .ref (ad (12, 0)), .ref (ad (13, 0)), .ref (ad (14, 0)), .ref (ad (15, 0))])), ((ad (2, i)), .inr (1, [.int (zI (pp i)), .int (zI (pn i)), .int (zI (zInv (pp i) (pn i))), .int (zI (wset (pn i))), .int (zI (zGn (pn i))), .ref (ad (3, i))])), ((ad (3, i)), .inl (cI, 64, .inl (zA (ar (3, i))))), ((ad (0, b)), .inr (2, [.ref (ad (1, b)), .int (zI (c b))])), ((ad (1, b)), .inl (cI, 64, .inl (zA (ar (1, b)))))]) rfl rfl
  refine zf_call (wc := [((ad (0, a)), .inr (2, [.ref (ad (1, a)), .int (zI (c a))])), ((ad (1, a)), .inl (cI, 64, .inl (zA (ar (1, a))))), ((ad (9, 0)), .inl (cI, 64, .inl (zA (ar (9, 0))))), ((ad (10, 0)), .inl (cI, 64, .inl (zA (ar (10, 0))))), ((ad (11, 0)), .inl (cI, 64, .inl (zA (ar (11, 0)))))]) (va_runV (As := [.int (zI i), .int (zI a), .int (zI b), .int (zI a)]) (rest := [.int (zI 0), .ref (ad (18, 0))]) CF (c_X5_convolve_A l D cI cW cP (ad (4, 0)) (ad (5, 0)) (ad (6, 0)) np (ad (7, 0)) (ad (8, 0)) (ad (9, 0)) (ad (10, 0)) (zRg ad) pg (ad (11, 0)) (ad (12, 0)) (ad (13, 0)) (ad (14, 0)) (ad (15, 0)) i a b a (ad (2, i)) (pp i) (pn i) (ad (3, i)) (ar (3, i)) (ad (0, a)) (ad (1, a)) (c a) (ar (1, a)) (ad (0, b)) (ad (1, b)) (c b) (ar (1, b)) (ar (9, 0)) (ar (10, 0)) (ar (11, 0)) (by first | omega | assumption) (by exact hiq) (by first | omega | assumption) (by exact zRg_at hra) (by first | omega | assumption) (by exact zRg_at hrb) (by first | omega | assumption) (by exact zRg_at hrt) (by first | omega | assumption) (by first | omega | assumption) (by first | omega | assumption) (by first | omega | assumption) (by exact hgr a hra) (by exact hgr b hrb) (by first | omega | assumption) (by first | omega | assumption) H.size) (cwV 4 hts gL_convolve_X5_convolve rfl rfl rfl (by decide +kernel) ⟨Nat.le_of_ble_eq_true rfl, Nat.le_of_ble_eq_true rfl⟩) (z_preV (va_recv hK hRc (ci := 4) (q0 := 0) rfl rfl) hPc hDc hRc hXc (hK.sub (tys' := [(cI, .int), (cW, .object RX3), (cP, .object RX2)]) [0, 1, 2] rfl)) rfl rfl hl.1 rfl (lv_room (Nat.le_of_ble_eq_true rfl)) dL_convolve_9 ⟨Nat.le_of_ble_eq_true rfl, Nat.le_of_ble_eq_true rfl⟩) hF hI hKA hS hA [(0, a), (1, a), (9, 0), (10, 0), (11, 0)] [(0, a), (1, a), (9, 0), (10, 0), (11, 0)] (List.forall_mem_cons.mpr ⟨zK0 hra, (List.forall_mem_cons.mpr ⟨zK1 hra, (List.forall_mem_cons.mpr ⟨zKf 9 rfl rfl, (List.forall_mem_cons.mpr ⟨zKf 10 rfl rfl, (List.forall_mem_cons.mpr ⟨zKf 11 rfl rfl, (fun _ h => absurd h List.not_mem_nil)⟩)⟩)⟩)⟩)⟩) rfl (fun _ => zYK np) (fun (a2, gl2, gr2, gm2) => zY cI cW cP cJ ad (zUA (zUA (zUA (zUA ar (1, a) a2) (9, 0) gl2) (10, 0) gr2) (11, 0) gm2) (zU c a (pn i)) np pp pn pg o) (fun u hu => by
        obtain ⟨a2, gl2, gr2, gm2⟩ := u
        show ([(ad (0, a), .inr (2, [.ref (ad (1, a)), .int (zI ((zU c a (pn i)) a))])), (ad (1, a), .inl (cI, 64, .inl (zA ((zUA (zUA (zUA (zUA ar (1, a) a2) (9, 0) gl2) (10, 0) gr2) (11, 0) gm2) (1, a))))), (ad (9, 0), .inl (cI, 64, .inl (zA ((zUA (zUA (zUA (zUA ar (1, a) a2) (9, 0) gl2) (10, 0) gr2) (11, 0) gm2) (9, 0))))), (ad (10, 0), .inl (cI, 64, .inl (zA ((zUA (zUA (zUA (zUA ar (1, a) a2) (9, 0) gl2) (10, 0) gr2) (11, 0) gm2) (10, 0))))), (ad (11, 0), .inl (cI, 64, .inl (zA ((zUA (zUA (zUA (zUA ar (1, a) a2) (9, 0) gl2) (10, 0) gr2) (11, 0) gm2) (11, 0)))))] : va_W) = _
        rw [show (zU c a (pn i)) a = (pn i) from zU_s _ _ _, show (zUA (zUA (zUA (zUA ar (1, a) a2) (9, 0) gl2) (10, 0) gr2) (11, 0) gm2) (1, a) = a2 from by simp [zUA], show (zUA (zUA (zUA (zUA ar (1, a) a2) (9, 0) gl2) (10, 0) gr2) (11, 0) gm2) (9, 0) = gl2 from by simp [zUA], show (zUA (zUA (zUA (zUA ar (1, a) a2) (9, 0) gl2) (10, 0) gr2) (11, 0) gm2) (10, 0) = gr2 from by simp [zUA], show (zUA (zUA (zUA (zUA ar (1, a) a2) (9, 0) gl2) (10, 0) gr2) (11, 0) gm2) (11, 0) = gm2 from by simp [zUA]]) (fun u hu k hk => by
        obtain ⟨a2, gl2, gr2, gm2⟩ := u
        by_cases hm : k ∈ [(0, a), (1, a), (9, 0), (10, 0), (11, 0)]
        · exact Or.inl hm
        · refine Or.inr ⟨hk, hm, ?_⟩
          simp only [List.mem_cons, List.not_mem_nil, or_false, not_or] at hm
          exact zY_ext (by simp [zUA, hm]) (fun h0 => zU_n _ _ (fun h1 => hm.1 (Prod.ext h0 h1)))) (cells' := 0) (slots' := 0) rfl rfl (fun u H locs hp_ hF hI hKA hS => ?_)
  obtain ⟨a2, gl2, gr2, gm2⟩ := u
  have hp_ : ∀ k, 0 ≤ k → k < (pn i) → a2 k = cyc (pp i) (pn i) (fun j => rowAt (ar (1, a)) (c a) j % (pp i)) (fun j => rowAt (ar (1, b)) (c b) j % (pp i))  k := hp_
  have hF : zFP D (zYK np) (zY cI cW cP cJ ad (zUA (zUA (zUA (zUA ar (1, a) a2) (9, 0) gl2) (10, 0) gr2) (11, 0) gm2) (zU c a (pn i)) np pp pn pg o) H := hF
  have hI : zIn (zYK np) (zY cI cW cP cJ ad (zUA (zUA (zUA (zUA ar (1, a) a2) (9, 0) gl2) (10, 0) gr2) (11, 0) gm2) (zU c a (pn i)) np pp pn pg o) := hI
  have hrg_ : -2147483648 ≤ (pn i) ∧ (pn i) ≤ 2147483647 := by omega
  refine z_i2l hx hb dL_convolve_12 hrg_ ?_
  refine zw_last hx hb hK hF hI hKA hS (ko := (18, 0)) (zKf 18 rfl rfl) (v := (pn i)) rfl 3 rfl dL_convolve_13 (zY cI cW cP cJ ad (zUA (zUA (zUA (zUA ar (1, a) a2) (9, 0) gl2) (10, 0) gr2) (11, 0) gm2) (zU c a (pn i)) np pp pn pg (vp_updL o 0 (zL (pn i)))) (fun k hk hne => zY_out hk hne) rfl (fun H locs hF hI hKA hS => ?_)
  refine lv_goto (tgt := 25) hx hb dL_convolve_14 (by decide) ?_
  refine z_iconst hx hb dL_convolve_25 ?_
  refine W.widen (k := 2) (n := 70) (Nat.le_of_ble_eq_true rfl) (Nat.le_of_ble_eq_true rfl) ?_
  have hv_e : (pn i) = pn i := by rfl
  rw [hv_e] at hrg_
  have hv_0 : (vp_updL o 0 (zL (pn i))) 0 = zL (pn i) := (show vp_updL o 0 (zL (pn i)) 0 = zL (pn i) from if_pos rfl).trans (congrArg zL hv_e)
  have hv_1 : ∀ k, 0 ≤ k → k < pn i → (zUA (zUA (zUA (zUA ar (1, a) a2) (9, 0) gl2) (10, 0) gr2) (11, 0) gm2) (1, a) k = (cyc (pp i) (pn i) (fun j => zG ar c a j % pp i) (fun j => zG ar c b j % pp i)) k := by
    intro k h1 h2
    rw [show (zUA (zUA (zUA (zUA ar (1, a) a2) (9, 0) gl2) (10, 0) gr2) (11, 0) gm2) (1, a) = a2 from by simp [zUA]]
    exact hp_ k h1 h2
  exact zw_iret hx hb hr hlocks (0, vp_updL o 0 (zL (pn i)), zU c a (pn i), zUA (zUA (zUA (zUA ar (1, a) a2) (9, 0) gl2) (10, 0) gr2) (11, 0) gm2) rfl (zWp_mu hv_0 hrg_ rfl hv_1 (fun r hr_ => by simp [zUA, hr_]) (fun j => by simp [zUA])) hF hI hKA hS dL_convolve_26

set_option maxHeartbeats 4000000 in
set_option maxRecDepth 100000 in
theorem w_convolve_B (l : Launch) (hl9 : l.stackTraces = false) (D : va_G) (cI cW cP cJ : ClassId) (ad : zk → Nat) (ar : zk → Int → Int) (c : Int → Int) (np : Int) (pp pn : Int → Int) (pg : Int → Option Nat) (o : Nat → Int64) (i : Int) (a : Int) (b : Int) (t : Int) (hYI : zYI ad ar c np pp pn pg) (hi : 0 ≤ i ∧ i < np) (hra : 0 ≤ a ∧ a < 4) (hrb : 0 ≤ b ∧ b < 4) (hrt : 0 ≤ t ∧ t < 4) (hfa : c a ≤ pn i) (hfb : c b ≤ pn i) (htb : b = t) (hab : ¬ a = b) : zWC l yL_convolve wsL_convolve D [(cI, .int), (cW, .object RX3), (cP, .object RX2), (cJ, .long)] (zYK np) (zY cI cW cP cJ ad ar c np pp pn pg o) [.ref (ad (4, 0)), .int (zI i), .int (zI a), .int (zI b), .int (zI t), .ref (ad (18, 0))] (S := Int × (Nat → Int64) × (Int → Int) × (zk → Int → Int)) (zWp 0 (pn i) True c ar t (pn i) (cyc (pp i) (pn i) (fun j => zG ar c a j % pp i) (fun j => zG ar c b j % pp i))) (fun u => some (.int (zI u.1))) (fun _ => zYK np) (fun u => zY cI cW cP cJ ad u.2.2.2 u.2.2.1 np pp pn pg u.2.1) := by
  obtain ⟨hnp, hcr, hgr, hpl⟩ := hYI
  have hca_ := hcr a hra
  have hcb_ := hcr b hrb
  have hct_ := hcr t hrt
  obtain ⟨hpn, hpw, hiq⟩ := hpl i hi
  obtain ⟨⟨hp3, hp4, hp5⟩, hp6, hn1, hn2, hn3⟩ := id hpn
  subst htb
  refine z_startW (cc := cL_convolve) (maxL := 7) (ret := some .int) (hh := [(0, 14, 17, 13), (0, 14, 21, 17)]) (own := RL) (by decide) rfl rfl (Nat.le_of_ble_eq_true rfl) [(0, .ref (ad (4, 0))), (1, .int (zI i)), (2, .int (zI a)), (3, .int (zI b)), (4, .int (zI b)), (5, .ref (ad (18, 0)))] rfl ?_
  intro pp_ ee s mm below meth cc A0 H ls hX hA0 htab hx hb hr hml hts hown hlocks hK hF hI hKA hS hA hl
  have CF : CallFix pp_ mm cc cL_convolve 7 s ([.ref (ad (4, 0)), .int (zI i), .int (zI a), .int (zI b), .int (zI b), .ref (ad (18, 0))] : List Value).toArray wsL_convolve RL := ⟨hx, hb, hml, hown, hts⟩
  refine lv_aload hx hb dL_convolve_0 (lv_at hl 5 rfl) ?_
  refine z_iconst hx hb dL_convolve_2 ?_
  refine lv_aload_n hx hb dL_convolve_3 rfl (lv_at hl 0 rfl) ?_
  refine lv_iload_n hx hb dL_convolve_4 rfl (lv_at hl 1 rfl) ?_
  refine lv_iload_n hx hb dL_convolve_5 rfl (lv_at hl 2 rfl) ?_
  refine lv_iload_n hx hb dL_convolve_6 rfl (lv_at hl 3 rfl) ?_
  refine lv_iload hx hb dL_convolve_7 (lv_at hl 4 rfl) ?_
  have hRc := zf_sub hF [(4, 0), (5, 0), (6, 0), (7, 0), (2, i), (3, i), (0, a), (1, a)] (List.forall_mem_cons.mpr ⟨zKf 4 rfl rfl, (List.forall_mem_cons.mpr ⟨zKf 5 rfl rfl, (List.forall_mem_cons.mpr ⟨zKf 6 rfl rfl, (List.forall_mem_cons.mpr ⟨zKf 7 rfl rfl, (List.forall_mem_cons.mpr ⟨zK2 hi, (List.forall_mem_cons.mpr ⟨zK3 hi, (List.forall_mem_cons.mpr ⟨zK0 hra, (List.forall_mem_cons.mpr ⟨zK1 hra, (fun _ h => absurd h List.not_mem_nil)⟩)⟩)⟩)⟩)⟩)⟩)⟩)⟩) (wc := [((ad (4, 0)), .inr (4, [.ref (ad (5, 0)), .ref (ad (6, 0)), .int (zI np), .ref (ad (7, 0)), .ref (ad (8, 0)), .ref (ad (9, 0)), .ref (ad (10, 0))])), ((ad (5, 0)), .inl (cW, 4, .inr (.inr (.inr (.inr (fun k : Nat => (zRg ad) (k : Int))))))), ((ad (6, 0)), .inl (cP, 8, .inr (.inr (.inr (.inr (fun k : Nat => pg (k : Int))))))), ((ad (7, 0)), .inr (3, [.ref (ad (11, 0)), .ref (ad (12, 0)), .ref (ad (13, 0)), .ref (ad (14, 0)), .ref (ad (15, 0))])), ((ad (2, i)), .inr (1, [.int (zI (pp i)), .int (zI (pn i)), .int (zI (zInv (pp i) (pn i))), .int (zI (wset (pn i))), .int (zI (zGn (pn i))), .ref (ad (3, i))])), ((ad (3, i)), .inl (cI, 64, .inl (zA (ar (3, i))))), ((ad (0, a)), .inr (2, [.ref (ad (1, a)), .int (zI (c a))])), ((ad (1, a)), .inl (cI, 64, .inl (zA (ar (1, a)))))]) rfl
  have hPc := zf_sub hF [(0, b), (1, b), (9, 0), (10, 0), (11, 0)] (List.forall_mem_cons.mpr ⟨zK0 hrb, (List.forall_mem_cons.mpr ⟨zK1 hrb, (List.forall_mem_cons.mpr ⟨zKf 9 rfl rfl, (List.forall_mem_cons.mpr ⟨zKf 10 rfl rfl, (List.forall_mem_cons.mpr ⟨zKf 11 rfl rfl, (fun _ h => absurd h List.not_mem_nil)⟩)⟩)⟩)⟩)⟩) (wc := [((ad (0, b)), .inr (2, [.ref (ad (1, b)), .int (zI (c b))])), ((ad (1, b)), .inl (cI, 64, .inl (zA (ar (1, b))))), ((ad (9, 0)), .inl (cI, 64, .inl (zA (ar (9, 0))))), ((ad (10, 0)), .inl (cI, 64, .inl (zA (ar (10, 0))))), ((ad (11, 0)), .inl (cI, 64, .inl (zA (ar (11, 0)))))]) rfl
  have hDc := zf_subD hI hKA [(0, b), (1, b), (9, 0), (10, 0), (11, 0)] (List.forall_mem_cons.mpr ⟨zK0 hrb, (List.forall_mem_cons.mpr ⟨zK1 hrb, (List.forall_mem_cons.mpr ⟨zKf 9 rfl rfl, (List.forall_mem_cons.mpr ⟨zKf 10 rfl rfl, (List.forall_mem_cons.mpr ⟨zKf 11 rfl rfl, (fun _ h => absurd h List.not_mem_nil)⟩)⟩)⟩)⟩)⟩) (by simp) (wc := [((ad (0, b)), .inr (2, [.ref (ad (1, b)), .int (zI (c b))])), ((ad (1, b)), .inl (cI, 64, .inl (zA (ar (1, b))))), ((ad (9, 0)), .inl (cI, 64, .inl (zA (ar (9, 0))))), ((ad (10, 0)), .inl (cI, 64, .inl (zA (ar (10, 0))))), ((ad (11, 0)), .inl (cI, 64, .inl (zA (ar (11, 0)))))]) rfl
  have hXc := zf_dis hI [(0, b), (1, b), (9, 0), (10, 0), (11, 0)] [(4, 0), (5, 0), (6, 0), (7, 0), (2, i), (3, i), (0, a), (1, a)] (List.forall_mem_cons.mpr ⟨zK0 hrb, (List.forall_mem_cons.mpr ⟨zK1 hrb, (List.forall_mem_cons.mpr ⟨zKf 9 rfl rfl, (List.forall_mem_cons.mpr ⟨zKf 10 rfl rfl, (List.forall_mem_cons.mpr ⟨zKf 11 rfl rfl, (fun _ h => absurd h List.not_mem_nil)⟩)⟩)⟩)⟩)⟩) (List.forall_mem_cons.mpr ⟨zKf 4 rfl rfl, (List.forall_mem_cons.mpr ⟨zKf 5 rfl rfl, (List.forall_mem_cons.mpr ⟨zKf 6 rfl rfl, (List.forall_mem_cons.mpr ⟨zKf 7 rfl rfl, (List.forall_mem_cons.mpr ⟨zK2 hi, (List.forall_mem_cons.mpr ⟨zK3 hi, (List.forall_mem_cons.mpr ⟨zK0 hra, (List.forall_mem_cons.mpr ⟨zK1 hra, (fun _ h => absurd h List.not_mem_nil)⟩)⟩)⟩)⟩)⟩)⟩)⟩)⟩) (by simp [hab]) (wc := [((ad (0, b)), .inr (2, [.ref (ad (1, b)), .int (zI (c b))])), ((ad (1, b)), .inl (cI, 64, .inl (zA (ar (1, b))))), ((ad (9, 0)), .inl (cI, 64, .inl (zA (ar (9, 0))))), ((ad (10, 0)), .inl (cI, 64, .inl (zA (ar (10, 0))))), ((ad (11, 0)), .inl (cI, 64, .inl (zA (ar (11, 0)))))]) (rc := [((ad (4, 0)), .inr (4, [.ref (ad (5, 0)), .ref (ad (6, 0)), .int (zI np), .ref (ad (7, 0)), .ref (ad (8, 0)), .ref (ad (9, 0)), .ref (ad (10, 0))])), ((ad (5, 0)), .inl (cW, 4, .inr (.inr (.inr (.inr (fun k : Nat => (zRg ad) (k : Int))))))), ((ad (6, 0)), .inl (cP, 8, .inr (.inr (.inr (.inr (fun k : Nat => pg (k : Int))))))), ((ad (7, 0)), .inr (3, [.ref (ad (11, 0)), .ref (ad (12, 0)), .ref (ad (13, 0)), .ref (ad (14, 0)), .ref (ad (15, 0))])), ((ad (2, i)), .inr (1, [.int (zI (pp i)), .int (zI (pn i)), .int (zI (zInv (pp i) (pn i))), .int (zI (wset (pn i))), .int (zI (zGn (pn i))), .ref (ad (3, i))])), ((ad (3, i)), .inl (cI, 64, .inl (zA (ar (3, i))))), ((ad (0, a)), .inr (2, [.ref (ad (1, a)), .int (zI (c a))])), ((ad (1, a)), .inl (cI, 64, .inl (zA (ar (1, a)))))]) rfl rfl
  refine zf_call (wc := [((ad (0, b)), .inr (2, [.ref (ad (1, b)), .int (zI (c b))])), ((ad (1, b)), .inl (cI, 64, .inl (zA (ar (1, b))))), ((ad (9, 0)), .inl (cI, 64, .inl (zA (ar (9, 0))))), ((ad (10, 0)), .inl (cI, 64, .inl (zA (ar (10, 0))))), ((ad (11, 0)), .inl (cI, 64, .inl (zA (ar (11, 0)))))]) (va_runV (As := [.int (zI i), .int (zI a), .int (zI b), .int (zI b)]) (rest := [.int (zI 0), .ref (ad (18, 0))]) CF (c_X5_convolve_B l D cI cW cP (ad (4, 0)) (ad (5, 0)) (ad (6, 0)) np (ad (7, 0)) (ad (8, 0)) (ad (9, 0)) (ad (10, 0)) (zRg ad) pg (ad (11, 0)) (ad (12, 0)) (ad (13, 0)) (ad (14, 0)) (ad (15, 0)) i a b b (ad (2, i)) (pp i) (pn i) (ad (3, i)) (ar (3, i)) (ad (0, a)) (ad (1, a)) (c a) (ar (1, a)) (ad (0, b)) (ad (1, b)) (c b) (ar (1, b)) (ar (9, 0)) (ar (10, 0)) (ar (11, 0)) (by first | omega | assumption) (by exact hiq) (by first | omega | assumption) (by exact zRg_at hra) (by first | omega | assumption) (by exact zRg_at hrb) (by first | omega | assumption) (by exact zRg_at hrt) (by first | omega | assumption) (by first | omega | assumption) (by first | omega | assumption) (by first | omega | assumption) (by exact hgr a hra) (by exact hgr b hrb) (by first | omega | assumption) (by first | omega | assumption) H.size) (cwV 4 hts gL_convolve_X5_convolve rfl rfl rfl (by decide +kernel) ⟨Nat.le_of_ble_eq_true rfl, Nat.le_of_ble_eq_true rfl⟩) (z_preV (va_recv hK hRc (ci := 4) (q0 := 0) rfl rfl) hPc hDc hRc hXc (hK.sub (tys' := [(cI, .int), (cW, .object RX3), (cP, .object RX2)]) [0, 1, 2] rfl)) rfl rfl hl.1 rfl (lv_room (Nat.le_of_ble_eq_true rfl)) dL_convolve_9 ⟨Nat.le_of_ble_eq_true rfl, Nat.le_of_ble_eq_true rfl⟩) hF hI hKA hS hA [(0, b), (1, b), (9, 0), (10, 0), (11, 0)] [(0, b), (1, b), (9, 0), (10, 0), (11, 0)] (List.forall_mem_cons.mpr ⟨zK0 hrb, (List.forall_mem_cons.mpr ⟨zK1 hrb, (List.forall_mem_cons.mpr ⟨zKf 9 rfl rfl, (List.forall_mem_cons.mpr ⟨zKf 10 rfl rfl, (List.forall_mem_cons.mpr ⟨zKf 11 rfl rfl, (fun _ h => absurd h List.not_mem_nil)⟩)⟩)⟩)⟩)⟩) rfl (fun _ => zYK np) (fun (a2, gl2, gr2, gm2) => zY cI cW cP cJ ad (zUA (zUA (zUA (zUA ar (1, b) a2) (9, 0) gl2) (10, 0) gr2) (11, 0) gm2) (zU c b (pn i)) np pp pn pg o) (fun u hu => by
        obtain ⟨a2, gl2, gr2, gm2⟩ := u
        show ([(ad (0, b), .inr (2, [.ref (ad (1, b)), .int (zI ((zU c b (pn i)) b))])), (ad (1, b), .inl (cI, 64, .inl (zA ((zUA (zUA (zUA (zUA ar (1, b) a2) (9, 0) gl2) (10, 0) gr2) (11, 0) gm2) (1, b))))), (ad (9, 0), .inl (cI, 64, .inl (zA ((zUA (zUA (zUA (zUA ar (1, b) a2) (9, 0) gl2) (10, 0) gr2) (11, 0) gm2) (9, 0))))), (ad (10, 0), .inl (cI, 64, .inl (zA ((zUA (zUA (zUA (zUA ar (1, b) a2) (9, 0) gl2) (10, 0) gr2) (11, 0) gm2) (10, 0))))), (ad (11, 0), .inl (cI, 64, .inl (zA ((zUA (zUA (zUA (zUA ar (1, b) a2) (9, 0) gl2) (10, 0) gr2) (11, 0) gm2) (11, 0)))))] : va_W) = _
        rw [show (zU c b (pn i)) b = (pn i) from zU_s _ _ _, show (zUA (zUA (zUA (zUA ar (1, b) a2) (9, 0) gl2) (10, 0) gr2) (11, 0) gm2) (1, b) = a2 from by simp [zUA], show (zUA (zUA (zUA (zUA ar (1, b) a2) (9, 0) gl2) (10, 0) gr2) (11, 0) gm2) (9, 0) = gl2 from by simp [zUA], show (zUA (zUA (zUA (zUA ar (1, b) a2) (9, 0) gl2) (10, 0) gr2) (11, 0) gm2) (10, 0) = gr2 from by simp [zUA], show (zUA (zUA (zUA (zUA ar (1, b) a2) (9, 0) gl2) (10, 0) gr2) (11, 0) gm2) (11, 0) = gm2 from by simp [zUA]]) (fun u hu k hk => by
        obtain ⟨a2, gl2, gr2, gm2⟩ := u
        by_cases hm : k ∈ [(0, b), (1, b), (9, 0), (10, 0), (11, 0)]
        · exact Or.inl hm
        · refine Or.inr ⟨hk, hm, ?_⟩
          simp only [List.mem_cons, List.not_mem_nil, or_false, not_or] at hm
          exact zY_ext (by simp [zUA, hm]) (fun h0 => zU_n _ _ (fun h1 => hm.1 (Prod.ext h0 h1)))) (cells' := 0) (slots' := 0) rfl rfl (fun u H locs hp_ hF hI hKA hS => ?_)
  obtain ⟨a2, gl2, gr2, gm2⟩ := u
  have hp_ : ∀ k, 0 ≤ k → k < (pn i) → a2 k = cyc (pp i) (pn i) (fun j => rowAt (ar (1, a)) (c a) j % (pp i)) (fun j => rowAt (ar (1, b)) (c b) j % (pp i))  k := hp_
  have hF : zFP D (zYK np) (zY cI cW cP cJ ad (zUA (zUA (zUA (zUA ar (1, b) a2) (9, 0) gl2) (10, 0) gr2) (11, 0) gm2) (zU c b (pn i)) np pp pn pg o) H := hF
  have hI : zIn (zYK np) (zY cI cW cP cJ ad (zUA (zUA (zUA (zUA ar (1, b) a2) (9, 0) gl2) (10, 0) gr2) (11, 0) gm2) (zU c b (pn i)) np pp pn pg o) := hI
  have hrg_ : -2147483648 ≤ (pn i) ∧ (pn i) ≤ 2147483647 := by omega
  refine z_i2l hx hb dL_convolve_12 hrg_ ?_
  refine zw_last hx hb hK hF hI hKA hS (ko := (18, 0)) (zKf 18 rfl rfl) (v := (pn i)) rfl 3 rfl dL_convolve_13 (zY cI cW cP cJ ad (zUA (zUA (zUA (zUA ar (1, b) a2) (9, 0) gl2) (10, 0) gr2) (11, 0) gm2) (zU c b (pn i)) np pp pn pg (vp_updL o 0 (zL (pn i)))) (fun k hk hne => zY_out hk hne) rfl (fun H locs hF hI hKA hS => ?_)
  refine lv_goto (tgt := 25) hx hb dL_convolve_14 (by decide) ?_
  refine z_iconst hx hb dL_convolve_25 ?_
  refine W.widen (k := 2) (n := 70) (Nat.le_of_ble_eq_true rfl) (Nat.le_of_ble_eq_true rfl) ?_
  have hv_e : (pn i) = pn i := by rfl
  rw [hv_e] at hrg_
  have hv_0 : (vp_updL o 0 (zL (pn i))) 0 = zL (pn i) := (show vp_updL o 0 (zL (pn i)) 0 = zL (pn i) from if_pos rfl).trans (congrArg zL hv_e)
  have hv_1 : ∀ k, 0 ≤ k → k < pn i → (zUA (zUA (zUA (zUA ar (1, b) a2) (9, 0) gl2) (10, 0) gr2) (11, 0) gm2) (1, b) k = (cyc (pp i) (pn i) (fun j => zG ar c a j % pp i) (fun j => zG ar c b j % pp i)) k := by
    intro k h1 h2
    rw [show (zUA (zUA (zUA (zUA ar (1, b) a2) (9, 0) gl2) (10, 0) gr2) (11, 0) gm2) (1, b) = a2 from by simp [zUA]]
    exact hp_ k h1 h2
  exact zw_iret hx hb hr hlocks (0, vp_updL o 0 (zL (pn i)), zU c b (pn i), zUA (zUA (zUA (zUA ar (1, b) a2) (9, 0) gl2) (10, 0) gr2) (11, 0) gm2) rfl (zWp_mu hv_0 hrg_ rfl hv_1 (fun r hr_ => by simp [zUA, hr_]) (fun j => by simp [zUA])) hF hI hKA hS dL_convolve_26

set_option maxHeartbeats 4000000 in
set_option maxRecDepth 100000 in
theorem w_convolve_S (l : Launch) (hl9 : l.stackTraces = false) (D : va_G) (cI cW cP cJ : ClassId) (ad : zk → Nat) (ar : zk → Int → Int) (c : Int → Int) (np : Int) (pp pn : Int → Int) (pg : Int → Option Nat) (o : Nat → Int64) (i : Int) (a : Int) (b : Int) (t : Int) (hYI : zYI ad ar c np pp pn pg) (hi : 0 ≤ i ∧ i < np) (hra : 0 ≤ a ∧ a < 4) (hrb : 0 ≤ b ∧ b < 4) (hrt : 0 ≤ t ∧ t < 4) (hfa : c a ≤ pn i) (hfb : c b ≤ pn i) (hta : a = t) (hba : a = b) : zWC l yL_convolve wsL_convolve D [(cI, .int), (cW, .object RX3), (cP, .object RX2), (cJ, .long)] (zYK np) (zY cI cW cP cJ ad ar c np pp pn pg o) [.ref (ad (4, 0)), .int (zI i), .int (zI a), .int (zI b), .int (zI t), .ref (ad (18, 0))] (S := Int × (Nat → Int64) × (Int → Int) × (zk → Int → Int)) (zWp 0 (pn i) True c ar t (pn i) (cyc (pp i) (pn i) (fun j => zG ar c a j % pp i) (fun j => zG ar c b j % pp i))) (fun u => some (.int (zI u.1))) (fun _ => zYK np) (fun u => zY cI cW cP cJ ad u.2.2.2 u.2.2.1 np pp pn pg u.2.1) := by
  obtain ⟨hnp, hcr, hgr, hpl⟩ := hYI
  have hca_ := hcr a hra
  have hcb_ := hcr b hrb
  have hct_ := hcr t hrt
  obtain ⟨hpn, hpw, hiq⟩ := hpl i hi
  obtain ⟨⟨hp3, hp4, hp5⟩, hp6, hn1, hn2, hn3⟩ := id hpn
  subst hta
  subst hba
  refine z_startW (cc := cL_convolve) (maxL := 7) (ret := some .int) (hh := [(0, 14, 17, 13), (0, 14, 21, 17)]) (own := RL) (by decide) rfl rfl (Nat.le_of_ble_eq_true rfl) [(0, .ref (ad (4, 0))), (1, .int (zI i)), (2, .int (zI a)), (3, .int (zI a)), (4, .int (zI a)), (5, .ref (ad (18, 0)))] rfl ?_
  intro pp_ ee s mm below meth cc A0 H ls hX hA0 htab hx hb hr hml hts hown hlocks hK hF hI hKA hS hA hl
  have CF : CallFix pp_ mm cc cL_convolve 7 s ([.ref (ad (4, 0)), .int (zI i), .int (zI a), .int (zI a), .int (zI a), .ref (ad (18, 0))] : List Value).toArray wsL_convolve RL := ⟨hx, hb, hml, hown, hts⟩
  refine lv_aload hx hb dL_convolve_0 (lv_at hl 5 rfl) ?_
  refine z_iconst hx hb dL_convolve_2 ?_
  refine lv_aload_n hx hb dL_convolve_3 rfl (lv_at hl 0 rfl) ?_
  refine lv_iload_n hx hb dL_convolve_4 rfl (lv_at hl 1 rfl) ?_
  refine lv_iload_n hx hb dL_convolve_5 rfl (lv_at hl 2 rfl) ?_
  refine lv_iload_n hx hb dL_convolve_6 rfl (lv_at hl 3 rfl) ?_
  refine lv_iload hx hb dL_convolve_7 (lv_at hl 4 rfl) ?_
  have hRc := zf_sub hF [(4, 0), (5, 0), (6, 0), (7, 0), (2, i), (3, i)] (List.forall_mem_cons.mpr ⟨zKf 4 rfl rfl, (List.forall_mem_cons.mpr ⟨zKf 5 rfl rfl, (List.forall_mem_cons.mpr ⟨zKf 6 rfl rfl, (List.forall_mem_cons.mpr ⟨zKf 7 rfl rfl, (List.forall_mem_cons.mpr ⟨zK2 hi, (List.forall_mem_cons.mpr ⟨zK3 hi, (fun _ h => absurd h List.not_mem_nil)⟩)⟩)⟩)⟩)⟩)⟩) (wc := [((ad (4, 0)), .inr (4, [.ref (ad (5, 0)), .ref (ad (6, 0)), .int (zI np), .ref (ad (7, 0)), .ref (ad (8, 0)), .ref (ad (9, 0)), .ref (ad (10, 0))])), ((ad (5, 0)), .inl (cW, 4, .inr (.inr (.inr (.inr (fun k : Nat => (zRg ad) (k : Int))))))), ((ad (6, 0)), .inl (cP, 8, .inr (.inr (.inr (.inr (fun k : Nat => pg (k : Int))))))), ((ad (7, 0)), .inr (3, [.ref (ad (11, 0)), .ref (ad (12, 0)), .ref (ad (13, 0)), .ref (ad (14, 0)), .ref (ad (15, 0))])), ((ad (2, i)), .inr (1, [.int (zI (pp i)), .int (zI (pn i)), .int (zI (zInv (pp i) (pn i))), .int (zI (wset (pn i))), .int (zI (zGn (pn i))), .ref (ad (3, i))])), ((ad (3, i)), .inl (cI, 64, .inl (zA (ar (3, i)))))]) rfl
  have hPc := zf_sub hF [(0, a), (1, a), (9, 0), (10, 0), (11, 0)] (List.forall_mem_cons.mpr ⟨zK0 hra, (List.forall_mem_cons.mpr ⟨zK1 hra, (List.forall_mem_cons.mpr ⟨zKf 9 rfl rfl, (List.forall_mem_cons.mpr ⟨zKf 10 rfl rfl, (List.forall_mem_cons.mpr ⟨zKf 11 rfl rfl, (fun _ h => absurd h List.not_mem_nil)⟩)⟩)⟩)⟩)⟩) (wc := [((ad (0, a)), .inr (2, [.ref (ad (1, a)), .int (zI (c a))])), ((ad (1, a)), .inl (cI, 64, .inl (zA (ar (1, a))))), ((ad (9, 0)), .inl (cI, 64, .inl (zA (ar (9, 0))))), ((ad (10, 0)), .inl (cI, 64, .inl (zA (ar (10, 0))))), ((ad (11, 0)), .inl (cI, 64, .inl (zA (ar (11, 0)))))]) rfl
  have hDc := zf_subD hI hKA [(0, a), (1, a), (9, 0), (10, 0), (11, 0)] (List.forall_mem_cons.mpr ⟨zK0 hra, (List.forall_mem_cons.mpr ⟨zK1 hra, (List.forall_mem_cons.mpr ⟨zKf 9 rfl rfl, (List.forall_mem_cons.mpr ⟨zKf 10 rfl rfl, (List.forall_mem_cons.mpr ⟨zKf 11 rfl rfl, (fun _ h => absurd h List.not_mem_nil)⟩)⟩)⟩)⟩)⟩) (by simp) (wc := [((ad (0, a)), .inr (2, [.ref (ad (1, a)), .int (zI (c a))])), ((ad (1, a)), .inl (cI, 64, .inl (zA (ar (1, a))))), ((ad (9, 0)), .inl (cI, 64, .inl (zA (ar (9, 0))))), ((ad (10, 0)), .inl (cI, 64, .inl (zA (ar (10, 0))))), ((ad (11, 0)), .inl (cI, 64, .inl (zA (ar (11, 0)))))]) rfl
  have hXc := zf_dis hI [(0, a), (1, a), (9, 0), (10, 0), (11, 0)] [(4, 0), (5, 0), (6, 0), (7, 0), (2, i), (3, i)] (List.forall_mem_cons.mpr ⟨zK0 hra, (List.forall_mem_cons.mpr ⟨zK1 hra, (List.forall_mem_cons.mpr ⟨zKf 9 rfl rfl, (List.forall_mem_cons.mpr ⟨zKf 10 rfl rfl, (List.forall_mem_cons.mpr ⟨zKf 11 rfl rfl, (fun _ h => absurd h List.not_mem_nil)⟩)⟩)⟩)⟩)⟩) (List.forall_mem_cons.mpr ⟨zKf 4 rfl rfl, (List.forall_mem_cons.mpr ⟨zKf 5 rfl rfl, (List.forall_mem_cons.mpr ⟨zKf 6 rfl rfl, (List.forall_mem_cons.mpr ⟨zKf 7 rfl rfl, (List.forall_mem_cons.mpr ⟨zK2 hi, (List.forall_mem_cons.mpr ⟨zK3 hi, (fun _ h => absurd h List.not_mem_nil)⟩)⟩)⟩)⟩)⟩)⟩) (by simp) (wc := [((ad (0, a)), .inr (2, [.ref (ad (1, a)), .int (zI (c a))])), ((ad (1, a)), .inl (cI, 64, .inl (zA (ar (1, a))))), ((ad (9, 0)), .inl (cI, 64, .inl (zA (ar (9, 0))))), ((ad (10, 0)), .inl (cI, 64, .inl (zA (ar (10, 0))))), ((ad (11, 0)), .inl (cI, 64, .inl (zA (ar (11, 0)))))]) (rc := [((ad (4, 0)), .inr (4, [.ref (ad (5, 0)), .ref (ad (6, 0)), .int (zI np), .ref (ad (7, 0)), .ref (ad (8, 0)), .ref (ad (9, 0)), .ref (ad (10, 0))])), ((ad (5, 0)), .inl (cW, 4, .inr (.inr (.inr (.inr (fun k : Nat => (zRg ad) (k : Int))))))), ((ad (6, 0)), .inl (cP, 8, .inr (.inr (.inr (.inr (fun k : Nat => pg (k : Int))))))), ((ad (7, 0)), .inr (3, [.ref (ad (11, 0)), .ref (ad (12, 0)), .ref (ad (13, 0)), .ref (ad (14, 0)), .ref (ad (15, 0))])), ((ad (2, i)), .inr (1, [.int (zI (pp i)), .int (zI (pn i)), .int (zI (zInv (pp i) (pn i))), .int (zI (wset (pn i))), .int (zI (zGn (pn i))), .ref (ad (3, i))])), ((ad (3, i)), .inl (cI, 64, .inl (zA (ar (3, i)))))]) rfl rfl
  refine zf_call (wc := [((ad (0, a)), .inr (2, [.ref (ad (1, a)), .int (zI (c a))])), ((ad (1, a)), .inl (cI, 64, .inl (zA (ar (1, a))))), ((ad (9, 0)), .inl (cI, 64, .inl (zA (ar (9, 0))))), ((ad (10, 0)), .inl (cI, 64, .inl (zA (ar (10, 0))))), ((ad (11, 0)), .inl (cI, 64, .inl (zA (ar (11, 0)))))]) (va_runV (As := [.int (zI i), .int (zI a), .int (zI a), .int (zI a)]) (rest := [.int (zI 0), .ref (ad (18, 0))]) CF (c_X5_convolve_S l D cI cW cP (ad (4, 0)) (ad (5, 0)) (ad (6, 0)) np (ad (7, 0)) (ad (8, 0)) (ad (9, 0)) (ad (10, 0)) (zRg ad) pg (ad (11, 0)) (ad (12, 0)) (ad (13, 0)) (ad (14, 0)) (ad (15, 0)) i a a a (ad (2, i)) (pp i) (pn i) (ad (3, i)) (ar (3, i)) (ad (0, a)) (ad (1, a)) (c a) (ar (1, a)) (ar (9, 0)) (ar (10, 0)) (ar (11, 0)) (by first | omega | assumption) (by exact hiq) (by first | omega | assumption) (by exact zRg_at hra) (by first | omega | assumption) (by exact zRg_at hrb) (by first | omega | assumption) (by exact zRg_at hrt) (by first | omega | assumption) (by first | omega | assumption) (by first | omega | assumption) (by exact hgr a hra) (by first | omega | assumption) H.size) (cwV 4 hts gL_convolve_X5_convolve rfl rfl rfl (by decide +kernel) ⟨Nat.le_of_ble_eq_true rfl, Nat.le_of_ble_eq_true rfl⟩) (z_preV (va_recv hK hRc (ci := 4) (q0 := 0) rfl rfl) hPc hDc hRc hXc (hK.sub (tys' := [(cI, .int), (cW, .object RX3), (cP, .object RX2)]) [0, 1, 2] rfl)) rfl rfl hl.1 rfl (lv_room (Nat.le_of_ble_eq_true rfl)) dL_convolve_9 ⟨Nat.le_of_ble_eq_true rfl, Nat.le_of_ble_eq_true rfl⟩) hF hI hKA hS hA [(0, a), (1, a), (9, 0), (10, 0), (11, 0)] [(0, a), (1, a), (9, 0), (10, 0), (11, 0)] (List.forall_mem_cons.mpr ⟨zK0 hra, (List.forall_mem_cons.mpr ⟨zK1 hra, (List.forall_mem_cons.mpr ⟨zKf 9 rfl rfl, (List.forall_mem_cons.mpr ⟨zKf 10 rfl rfl, (List.forall_mem_cons.mpr ⟨zKf 11 rfl rfl, (fun _ h => absurd h List.not_mem_nil)⟩)⟩)⟩)⟩)⟩) rfl (fun _ => zYK np) (fun (a2, gl2, gr2, gm2) => zY cI cW cP cJ ad (zUA (zUA (zUA (zUA ar (1, a) a2) (9, 0) gl2) (10, 0) gr2) (11, 0) gm2) (zU c a (pn i)) np pp pn pg o) (fun u hu => by
        obtain ⟨a2, gl2, gr2, gm2⟩ := u
        show ([(ad (0, a), .inr (2, [.ref (ad (1, a)), .int (zI ((zU c a (pn i)) a))])), (ad (1, a), .inl (cI, 64, .inl (zA ((zUA (zUA (zUA (zUA ar (1, a) a2) (9, 0) gl2) (10, 0) gr2) (11, 0) gm2) (1, a))))), (ad (9, 0), .inl (cI, 64, .inl (zA ((zUA (zUA (zUA (zUA ar (1, a) a2) (9, 0) gl2) (10, 0) gr2) (11, 0) gm2) (9, 0))))), (ad (10, 0), .inl (cI, 64, .inl (zA ((zUA (zUA (zUA (zUA ar (1, a) a2) (9, 0) gl2) (10, 0) gr2) (11, 0) gm2) (10, 0))))), (ad (11, 0), .inl (cI, 64, .inl (zA ((zUA (zUA (zUA (zUA ar (1, a) a2) (9, 0) gl2) (10, 0) gr2) (11, 0) gm2) (11, 0)))))] : va_W) = _
        rw [show (zU c a (pn i)) a = (pn i) from zU_s _ _ _, show (zUA (zUA (zUA (zUA ar (1, a) a2) (9, 0) gl2) (10, 0) gr2) (11, 0) gm2) (1, a) = a2 from by simp [zUA], show (zUA (zUA (zUA (zUA ar (1, a) a2) (9, 0) gl2) (10, 0) gr2) (11, 0) gm2) (9, 0) = gl2 from by simp [zUA], show (zUA (zUA (zUA (zUA ar (1, a) a2) (9, 0) gl2) (10, 0) gr2) (11, 0) gm2) (10, 0) = gr2 from by simp [zUA], show (zUA (zUA (zUA (zUA ar (1, a) a2) (9, 0) gl2) (10, 0) gr2) (11, 0) gm2) (11, 0) = gm2 from by simp [zUA]]) (fun u hu k hk => by
        obtain ⟨a2, gl2, gr2, gm2⟩ := u
        by_cases hm : k ∈ [(0, a), (1, a), (9, 0), (10, 0), (11, 0)]
        · exact Or.inl hm
        · refine Or.inr ⟨hk, hm, ?_⟩
          simp only [List.mem_cons, List.not_mem_nil, or_false, not_or] at hm
          exact zY_ext (by simp [zUA, hm]) (fun h0 => zU_n _ _ (fun h1 => hm.1 (Prod.ext h0 h1)))) (cells' := 0) (slots' := 0) rfl rfl (fun u H locs hp_ hF hI hKA hS => ?_)
  obtain ⟨a2, gl2, gr2, gm2⟩ := u
  have hp_ : ∀ k, 0 ≤ k → k < (pn i) → a2 k = cyc (pp i) (pn i) (fun j => rowAt (ar (1, a)) (c a) j % (pp i)) (fun j => rowAt (ar (1, a)) (c a) j % (pp i))  k := hp_
  have hF : zFP D (zYK np) (zY cI cW cP cJ ad (zUA (zUA (zUA (zUA ar (1, a) a2) (9, 0) gl2) (10, 0) gr2) (11, 0) gm2) (zU c a (pn i)) np pp pn pg o) H := hF
  have hI : zIn (zYK np) (zY cI cW cP cJ ad (zUA (zUA (zUA (zUA ar (1, a) a2) (9, 0) gl2) (10, 0) gr2) (11, 0) gm2) (zU c a (pn i)) np pp pn pg o) := hI
  have hrg_ : -2147483648 ≤ (pn i) ∧ (pn i) ≤ 2147483647 := by omega
  refine z_i2l hx hb dL_convolve_12 hrg_ ?_
  refine zw_last hx hb hK hF hI hKA hS (ko := (18, 0)) (zKf 18 rfl rfl) (v := (pn i)) rfl 3 rfl dL_convolve_13 (zY cI cW cP cJ ad (zUA (zUA (zUA (zUA ar (1, a) a2) (9, 0) gl2) (10, 0) gr2) (11, 0) gm2) (zU c a (pn i)) np pp pn pg (vp_updL o 0 (zL (pn i)))) (fun k hk hne => zY_out hk hne) rfl (fun H locs hF hI hKA hS => ?_)
  refine lv_goto (tgt := 25) hx hb dL_convolve_14 (by decide) ?_
  refine z_iconst hx hb dL_convolve_25 ?_
  refine W.widen (k := 2) (n := 70) (Nat.le_of_ble_eq_true rfl) (Nat.le_of_ble_eq_true rfl) ?_
  have hv_e : (pn i) = pn i := by rfl
  rw [hv_e] at hrg_
  have hv_0 : (vp_updL o 0 (zL (pn i))) 0 = zL (pn i) := (show vp_updL o 0 (zL (pn i)) 0 = zL (pn i) from if_pos rfl).trans (congrArg zL hv_e)
  have hv_1 : ∀ k, 0 ≤ k → k < pn i → (zUA (zUA (zUA (zUA ar (1, a) a2) (9, 0) gl2) (10, 0) gr2) (11, 0) gm2) (1, a) k = (cyc (pp i) (pn i) (fun j => zG ar c a j % pp i) (fun j => zG ar c a j % pp i)) k := by
    intro k h1 h2
    rw [show (zUA (zUA (zUA (zUA ar (1, a) a2) (9, 0) gl2) (10, 0) gr2) (11, 0) gm2) (1, a) = a2 from by simp [zUA]]
    exact hp_ k h1 h2
  exact zw_iret hx hb hr hlocks (0, vp_updL o 0 (zL (pn i)), zU c a (pn i), zUA (zUA (zUA (zUA ar (1, a) a2) (9, 0) gl2) (10, 0) gr2) (11, 0) gm2) rfl (zWp_mu hv_0 hrg_ rfl hv_1 (fun r hr_ => by simp [zUA, hr_]) (fun j => by simp [zUA])) hF hI hKA hS dL_convolve_26

set_option maxHeartbeats 4000000 in
set_option maxRecDepth 100000 in
theorem w_convolved_e1a (l : Launch) (hl9 : l.stackTraces = false) (D : va_G) (cI cW cP cJ : ClassId) (ad : zk → Nat) (ar : zk → Int → Int) (c : Int → Int) (np : Int) (pp pn : Int → Int) (pg : Int → Option Nat) (o : Nat → Int64) (i : Int) (a : Int) (b : Int) (x : Int) (hYI : zYI ad ar c np pp pn pg) (ha_i : -2147483648 ≤ i ∧ i ≤ 2147483647) (ha_a : -2147483648 ≤ a ∧ a ≤ 2147483647) (ha_b : -2147483648 ≤ b ∧ b ≤ 2147483647) (ha_x : -2147483648 ≤ x ∧ x ≤ 2147483647) (hi : ¬ (0 ≤ i ∧ i < np)) : zWC l yL_convolved wsL_convolved D [(cI, .int), (cW, .object RX3), (cP, .object RX2), (cJ, .long)] (zYK np) (zY cI cW cP cJ ad ar c np pp pn pg o) [.ref (ad (4, 0)), .int (zI i), .int (zI a), .int (zI b), .int (zI x), .ref (ad (18, 0))] (S := Int × (Nat → Int64) × (Int → Int) × (zk → Int → Int)) (zWp 1 (cyc (pp i) (pn i) (fun j => zG ar c a j % pp i) (fun j => zG ar c b j % pp i) x) False c ar 0 0 (fun _ => 0)) (fun u => some (.int (zI u.1))) (fun _ => zYK np) (fun u => zY cI cW cP cJ ad u.2.2.2 u.2.2.1 np pp pn pg u.2.1) := by
  obtain ⟨hnp, hcr, hgr, hpl⟩ := hYI
  refine z_startW (cc := cL_convolved) (maxL := 7) (ret := some .int) (hh := [(0, 14, 17, 13), (0, 14, 21, 17)]) (own := RL) (by decide) rfl rfl (Nat.le_of_ble_eq_true rfl) [(0, .ref (ad (4, 0))), (1, .int (zI i)), (2, .int (zI a)), (3, .int (zI b)), (4, .int (zI x)), (5, .ref (ad (18, 0)))] rfl ?_
  intro pp_ ee s mm below meth cc A0 H ls hX hA0 htab hx hb hr hml hts hown hlocks hK hF hI hKA hS hA hl
  have CF : CallFix pp_ mm cc cL_convolved 7 s ([.ref (ad (4, 0)), .int (zI i), .int (zI a), .int (zI b), .int (zI x), .ref (ad (18, 0))] : List Value).toArray wsL_convolved RL := ⟨hx, hb, hml, hown, hts⟩
  refine lv_aload hx hb dL_convolved_0 (lv_at hl 5 rfl) ?_
  refine z_iconst hx hb dL_convolved_2 ?_
  refine lv_aload_n hx hb dL_convolved_3 rfl (lv_at hl 0 rfl) ?_
  refine lv_iload_n hx hb dL_convolved_4 rfl (lv_at hl 1 rfl) ?_
  refine lv_iload_n hx hb dL_convolved_5 rfl (lv_at hl 2 rfl) ?_
  refine lv_iload_n hx hb dL_convolved_6 rfl (lv_at hl 3 rfl) ?_
  refine lv_iload hx hb dL_convolved_7 (lv_at hl 4 rfl) ?_
  have hRc := zf_sub hF [(4, 0)] (List.forall_mem_cons.mpr ⟨zKf 4 rfl rfl, (fun _ h => absurd h List.not_mem_nil)⟩) (wc := [((ad (4, 0)), .inr (4, [.ref (ad (5, 0)), .ref (ad (6, 0)), .int (zI np), .ref (ad (7, 0)), .ref (ad (8, 0)), .ref (ad (9, 0)), .ref (ad (10, 0))]))]) rfl
  refine zw_catch (E := "java/lang/IndexOutOfBoundsException") (name := "java/lang/IndexOutOfBoundsException") (own := RL) (vx_runV (As := [.int (zI i), .int (zI a), .int (zI b), .int (zI x)]) (rest := [.int (zI 0), .ref (ad (18, 0))]) CF (x_X5_convolved_1a l hl9 D cI cW cP (ad (4, 0)) (ad (5, 0)) (ad (6, 0)) np (ad (7, 0)) (ad (8, 0)) (ad (9, 0)) (ad (10, 0)) i a b x (by first | omega | assumption) (by first | omega | assumption) (by first | omega | assumption) A0 H.size) (cwV 4 hts gL_convolved_X5_convolved rfl rfl rfl (by decide +kernel) ⟨Nat.le_of_ble_eq_true rfl, Nat.le_of_ble_eq_true rfl⟩) (zw_preTV (va_recv hK hRc (ci := 4) (q0 := 0) rfl rfl) hX hA0 hA hS hRc (hK.sub (tys' := [(cI, .int), (cW, .object RX3), (cP, .object RX2)]) [0, 1, 2] rfl)) rfl rfl hl.1 rfl (lv_room (Nat.le_of_ble_eq_true rfl)) dL_convolved_9 ⟨Nat.le_of_ble_eq_true rfl, Nat.le_of_ble_eq_true rfl⟩) hF hS hA hown [] ⟨0, 14, 17, 13⟩ [⟨0, 14, 21, 17⟩] (htab.trans rfl) (fun _ h => absurd h List.not_mem_nil) rfl (by decide) (hts (.classLink RL 13 "java/lang/IndexOutOfBoundsException") (by decide +kernel)) (z_cast (hts (.initialized "java/lang/IndexOutOfBoundsException") (by decide +kernel))) (fun q H locs hF hS => ?_)
  refine lv_astore (lv' := [(6, .ref q), (0, .ref (ad (4, 0))), (1, .int (zI i)), (2, .int (zI a)), (3, .int (zI b)), (4, .int (zI x)), (5, .ref (ad (18, 0)))]) hx hb dL_convolved_17 hl (by decide) rfl (fun ls hl => ?_)
  have hl := lv_sub hl [1, 2, 3, 4, 5, 6, 0] rfl
  have hl : lv_has ls 7 [(0, .ref (ad (4, 0))), (1, .int (zI i)), (2, .int (zI a)), (3, .int (zI b)), (4, .int (zI x)), (5, .ref (ad (18, 0))), (6, .ref q)] := hl
  refine z_iconst hx hb dL_convolved_19 ?_
  refine W.widen (k := 2) (n := 70) (Nat.le_of_ble_eq_true rfl) (Nat.le_of_ble_eq_true rfl) ?_
  exact zw_iret hx hb hr hlocks (1, o, c, ar) rfl (zWp_err (by decide)) hF hI hKA hS dL_convolved_20

set_option maxHeartbeats 4000000 in
set_option maxRecDepth 100000 in
theorem w_convolved_e1b (l : Launch) (hl9 : l.stackTraces = false) (D : va_G) (cI cW cP cJ : ClassId) (ad : zk → Nat) (ar : zk → Int → Int) (c : Int → Int) (np : Int) (pp pn : Int → Int) (pg : Int → Option Nat) (o : Nat → Int64) (i : Int) (a : Int) (b : Int) (x : Int) (hYI : zYI ad ar c np pp pn pg) (ha_a : -2147483648 ≤ a ∧ a ≤ 2147483647) (ha_b : -2147483648 ≤ b ∧ b ≤ 2147483647) (ha_x : -2147483648 ≤ x ∧ x ≤ 2147483647) (hi : 0 ≤ i ∧ i < np) (hba : ¬ (0 ≤ a ∧ a < 4)) : zWC l yL_convolved wsL_convolved D [(cI, .int), (cW, .object RX3), (cP, .object RX2), (cJ, .long)] (zYK np) (zY cI cW cP cJ ad ar c np pp pn pg o) [.ref (ad (4, 0)), .int (zI i), .int (zI a), .int (zI b), .int (zI x), .ref (ad (18, 0))] (S := Int × (Nat → Int64) × (Int → Int) × (zk → Int → Int)) (zWp 1 (cyc (pp i) (pn i) (fun j => zG ar c a j % pp i) (fun j => zG ar c b j % pp i) x) False c ar 0 0 (fun _ => 0)) (fun u => some (.int (zI u.1))) (fun _ => zYK np) (fun u => zY cI cW cP cJ ad u.2.2.2 u.2.2.1 np pp pn pg u.2.1) := by
  obtain ⟨hnp, hcr, hgr, hpl⟩ := hYI
  obtain ⟨hpn, hpw, hiq⟩ := hpl i hi
  obtain ⟨⟨hp3, hp4, hp5⟩, hp6, hn1, hn2, hn3⟩ := id hpn
  refine z_startW (cc := cL_convolved) (maxL := 7) (ret := some .int) (hh := [(0, 14, 17, 13), (0, 14, 21, 17)]) (own := RL) (by decide) rfl rfl (Nat.le_of_ble_eq_true rfl) [(0, .ref (ad (4, 0))), (1, .int (zI i)), (2, .int (zI a)), (3, .int (zI b)), (4, .int (zI x)), (5, .ref (ad (18, 0)))] rfl ?_
  intro pp_ ee s mm below meth cc A0 H ls hX hA0 htab hx hb hr hml hts hown hlocks hK hF hI hKA hS hA hl
  have CF : CallFix pp_ mm cc cL_convolved 7 s ([.ref (ad (4, 0)), .int (zI i), .int (zI a), .int (zI b), .int (zI x), .ref (ad (18, 0))] : List Value).toArray wsL_convolved RL := ⟨hx, hb, hml, hown, hts⟩
  refine lv_aload hx hb dL_convolved_0 (lv_at hl 5 rfl) ?_
  refine z_iconst hx hb dL_convolved_2 ?_
  refine lv_aload_n hx hb dL_convolved_3 rfl (lv_at hl 0 rfl) ?_
  refine lv_iload_n hx hb dL_convolved_4 rfl (lv_at hl 1 rfl) ?_
  refine lv_iload_n hx hb dL_convolved_5 rfl (lv_at hl 2 rfl) ?_
  refine lv_iload_n hx hb dL_convolved_6 rfl (lv_at hl 3 rfl) ?_
  refine lv_iload hx hb dL_convolved_7 (lv_at hl 4 rfl) ?_
  have hRc := zf_sub hF [(4, 0), (6, 0)] (List.forall_mem_cons.mpr ⟨zKf 4 rfl rfl, (List.forall_mem_cons.mpr ⟨zKf 6 rfl rfl, (fun _ h => absurd h List.not_mem_nil)⟩)⟩) (wc := [((ad (4, 0)), .inr (4, [.ref (ad (5, 0)), .ref (ad (6, 0)), .int (zI np), .ref (ad (7, 0)), .ref (ad (8, 0)), .ref (ad (9, 0)), .ref (ad (10, 0))])), ((ad (6, 0)), .inl (cP, 8, .inr (.inr (.inr (.inr (fun k : Nat => pg (k : Int)))))))]) rfl
  refine zw_catch (E := "java/lang/IndexOutOfBoundsException") (name := "java/lang/IndexOutOfBoundsException") (own := RL) (vx_runV (As := [.int (zI i), .int (zI a), .int (zI b), .int (zI x)]) (rest := [.int (zI 0), .ref (ad (18, 0))]) CF (x_X5_convolved_1b l hl9 D cI cW cP (ad (4, 0)) (ad (5, 0)) (ad (6, 0)) np (ad (7, 0)) (ad (8, 0)) (ad (9, 0)) (ad (10, 0)) pg i a b x (ad (2, i)) (by first | omega | assumption) (by exact hiq) (by first | omega | assumption) (by first | omega | assumption) A0 H.size) (cwV 4 hts gL_convolved_X5_convolved rfl rfl rfl (by decide +kernel) ⟨Nat.le_of_ble_eq_true rfl, Nat.le_of_ble_eq_true rfl⟩) (zw_preTV (va_recv hK hRc (ci := 4) (q0 := 0) rfl rfl) hX hA0 hA hS hRc (hK.sub (tys' := [(cI, .int), (cW, .object RX3), (cP, .object RX2)]) [0, 1, 2] rfl)) rfl rfl hl.1 rfl (lv_room (Nat.le_of_ble_eq_true rfl)) dL_convolved_9 ⟨Nat.le_of_ble_eq_true rfl, Nat.le_of_ble_eq_true rfl⟩) hF hS hA hown [] ⟨0, 14, 17, 13⟩ [⟨0, 14, 21, 17⟩] (htab.trans rfl) (fun _ h => absurd h List.not_mem_nil) rfl (by decide) (hts (.classLink RL 13 "java/lang/IndexOutOfBoundsException") (by decide +kernel)) (z_cast (hts (.initialized "java/lang/IndexOutOfBoundsException") (by decide +kernel))) (fun q H locs hF hS => ?_)
  refine lv_astore (lv' := [(6, .ref q), (0, .ref (ad (4, 0))), (1, .int (zI i)), (2, .int (zI a)), (3, .int (zI b)), (4, .int (zI x)), (5, .ref (ad (18, 0)))]) hx hb dL_convolved_17 hl (by decide) rfl (fun ls hl => ?_)
  have hl := lv_sub hl [1, 2, 3, 4, 5, 6, 0] rfl
  have hl : lv_has ls 7 [(0, .ref (ad (4, 0))), (1, .int (zI i)), (2, .int (zI a)), (3, .int (zI b)), (4, .int (zI x)), (5, .ref (ad (18, 0))), (6, .ref q)] := hl
  refine z_iconst hx hb dL_convolved_19 ?_
  refine W.widen (k := 2) (n := 70) (Nat.le_of_ble_eq_true rfl) (Nat.le_of_ble_eq_true rfl) ?_
  exact zw_iret hx hb hr hlocks (1, o, c, ar) rfl (zWp_err (by decide)) hF hI hKA hS dL_convolved_20

set_option maxHeartbeats 4000000 in
set_option maxRecDepth 100000 in
theorem w_convolved_e1c (l : Launch) (hl9 : l.stackTraces = false) (D : va_G) (cI cW cP cJ : ClassId) (ad : zk → Nat) (ar : zk → Int → Int) (c : Int → Int) (np : Int) (pp pn : Int → Int) (pg : Int → Option Nat) (o : Nat → Int64) (i : Int) (a : Int) (b : Int) (x : Int) (hYI : zYI ad ar c np pp pn pg) (ha_b : -2147483648 ≤ b ∧ b ≤ 2147483647) (ha_x : -2147483648 ≤ x ∧ x ≤ 2147483647) (hi : 0 ≤ i ∧ i < np) (hra : 0 ≤ a ∧ a < 4) (hbb : ¬ (0 ≤ b ∧ b < 4)) : zWC l yL_convolved wsL_convolved D [(cI, .int), (cW, .object RX3), (cP, .object RX2), (cJ, .long)] (zYK np) (zY cI cW cP cJ ad ar c np pp pn pg o) [.ref (ad (4, 0)), .int (zI i), .int (zI a), .int (zI b), .int (zI x), .ref (ad (18, 0))] (S := Int × (Nat → Int64) × (Int → Int) × (zk → Int → Int)) (zWp 1 (cyc (pp i) (pn i) (fun j => zG ar c a j % pp i) (fun j => zG ar c b j % pp i) x) False c ar 0 0 (fun _ => 0)) (fun u => some (.int (zI u.1))) (fun _ => zYK np) (fun u => zY cI cW cP cJ ad u.2.2.2 u.2.2.1 np pp pn pg u.2.1) := by
  obtain ⟨hnp, hcr, hgr, hpl⟩ := hYI
  have hca_ := hcr a hra
  obtain ⟨hpn, hpw, hiq⟩ := hpl i hi
  obtain ⟨⟨hp3, hp4, hp5⟩, hp6, hn1, hn2, hn3⟩ := id hpn
  refine z_startW (cc := cL_convolved) (maxL := 7) (ret := some .int) (hh := [(0, 14, 17, 13), (0, 14, 21, 17)]) (own := RL) (by decide) rfl rfl (Nat.le_of_ble_eq_true rfl) [(0, .ref (ad (4, 0))), (1, .int (zI i)), (2, .int (zI a)), (3, .int (zI b)), (4, .int (zI x)), (5, .ref (ad (18, 0)))] rfl ?_
  intro pp_ ee s mm below meth cc A0 H ls hX hA0 htab hx hb hr hml hts hown hlocks hK hF hI hKA hS hA hl
  have CF : CallFix pp_ mm cc cL_convolved 7 s ([.ref (ad (4, 0)), .int (zI i), .int (zI a), .int (zI b), .int (zI x), .ref (ad (18, 0))] : List Value).toArray wsL_convolved RL := ⟨hx, hb, hml, hown, hts⟩
  refine lv_aload hx hb dL_convolved_0 (lv_at hl 5 rfl) ?_
  refine z_iconst hx hb dL_convolved_2 ?_
  refine lv_aload_n hx hb dL_convolved_3 rfl (lv_at hl 0 rfl) ?_
  refine lv_iload_n hx hb dL_convolved_4 rfl (lv_at hl 1 rfl) ?_
  refine lv_iload_n hx hb dL_convolved_5 rfl (lv_at hl 2 rfl) ?_
  refine lv_iload_n hx hb dL_convolved_6 rfl (lv_at hl 3 rfl) ?_
  refine lv_iload hx hb dL_convolved_7 (lv_at hl 4 rfl) ?_
  have hRc := zf_sub hF [(4, 0), (5, 0), (6, 0)] (List.forall_mem_cons.mpr ⟨zKf 4 rfl rfl, (List.forall_mem_cons.mpr ⟨zKf 5 rfl rfl, (List.forall_mem_cons.mpr ⟨zKf 6 rfl rfl, (fun _ h => absurd h List.not_mem_nil)⟩)⟩)⟩) (wc := [((ad (4, 0)), .inr (4, [.ref (ad (5, 0)), .ref (ad (6, 0)), .int (zI np), .ref (ad (7, 0)), .ref (ad (8, 0)), .ref (ad (9, 0)), .ref (ad (10, 0))])), ((ad (5, 0)), .inl (cW, 4, .inr (.inr (.inr (.inr (fun k : Nat => (zRg ad) (k : Int))))))), ((ad (6, 0)), .inl (cP, 8, .inr (.inr (.inr (.inr (fun k : Nat => pg (k : Int)))))))]) rfl
  refine zw_catch (E := "java/lang/IndexOutOfBoundsException") (name := "java/lang/IndexOutOfBoundsException") (own := RL) (vx_runV (As := [.int (zI i), .int (zI a), .int (zI b), .int (zI x)]) (rest := [.int (zI 0), .ref (ad (18, 0))]) CF (x_X5_convolved_1c l hl9 D cI cW cP (ad (4, 0)) (ad (5, 0)) (ad (6, 0)) np (ad (7, 0)) (ad (8, 0)) (ad (9, 0)) (ad (10, 0)) (zRg ad) pg i a b x (ad (2, i)) (ad (0, a)) (by first | omega | assumption) (by exact hiq) (by first | omega | assumption) (by exact zRg_at hra) (by first | omega | assumption) (by first | omega | assumption) A0 H.size) (cwV 4 hts gL_convolved_X5_convolved rfl rfl rfl (by decide +kernel) ⟨Nat.le_of_ble_eq_true rfl, Nat.le_of_ble_eq_true rfl⟩) (zw_preTV (va_recv hK hRc (ci := 4) (q0 := 0) rfl rfl) hX hA0 hA hS hRc (hK.sub (tys' := [(cI, .int), (cW, .object RX3), (cP, .object RX2)]) [0, 1, 2] rfl)) rfl rfl hl.1 rfl (lv_room (Nat.le_of_ble_eq_true rfl)) dL_convolved_9 ⟨Nat.le_of_ble_eq_true rfl, Nat.le_of_ble_eq_true rfl⟩) hF hS hA hown [] ⟨0, 14, 17, 13⟩ [⟨0, 14, 21, 17⟩] (htab.trans rfl) (fun _ h => absurd h List.not_mem_nil) rfl (by decide) (hts (.classLink RL 13 "java/lang/IndexOutOfBoundsException") (by decide +kernel)) (z_cast (hts (.initialized "java/lang/IndexOutOfBoundsException") (by decide +kernel))) (fun q H locs hF hS => ?_)
  refine lv_astore (lv' := [(6, .ref q), (0, .ref (ad (4, 0))), (1, .int (zI i)), (2, .int (zI a)), (3, .int (zI b)), (4, .int (zI x)), (5, .ref (ad (18, 0)))]) hx hb dL_convolved_17 hl (by decide) rfl (fun ls hl => ?_)
  have hl := lv_sub hl [1, 2, 3, 4, 5, 6, 0] rfl
  have hl : lv_has ls 7 [(0, .ref (ad (4, 0))), (1, .int (zI i)), (2, .int (zI a)), (3, .int (zI b)), (4, .int (zI x)), (5, .ref (ad (18, 0))), (6, .ref q)] := hl
  refine z_iconst hx hb dL_convolved_19 ?_
  refine W.widen (k := 2) (n := 70) (Nat.le_of_ble_eq_true rfl) (Nat.le_of_ble_eq_true rfl) ?_
  exact zw_iret hx hb hr hlocks (1, o, c, ar) rfl (zWp_err (by decide)) hF hI hKA hS dL_convolved_20

set_option maxHeartbeats 4000000 in
set_option maxRecDepth 100000 in
theorem w_convolved_e1d (l : Launch) (hl9 : l.stackTraces = false) (D : va_G) (cI cW cP cJ : ClassId) (ad : zk → Nat) (ar : zk → Int → Int) (c : Int → Int) (np : Int) (pp pn : Int → Int) (pg : Int → Option Nat) (o : Nat → Int64) (i : Int) (a : Int) (b : Int) (x : Int) (hYI : zYI ad ar c np pp pn pg) (ha_x : -2147483648 ≤ x ∧ x ≤ 2147483647) (hi : 0 ≤ i ∧ i < np) (hra : 0 ≤ a ∧ a < 4) (hrb : 0 ≤ b ∧ b < 4) (hx_ : ¬ (0 ≤ x ∧ x < pn i)) : zWC l yL_convolved wsL_convolved D [(cI, .int), (cW, .object RX3), (cP, .object RX2), (cJ, .long)] (zYK np) (zY cI cW cP cJ ad ar c np pp pn pg o) [.ref (ad (4, 0)), .int (zI i), .int (zI a), .int (zI b), .int (zI x), .ref (ad (18, 0))] (S := Int × (Nat → Int64) × (Int → Int) × (zk → Int → Int)) (zWp 1 (cyc (pp i) (pn i) (fun j => zG ar c a j % pp i) (fun j => zG ar c b j % pp i) x) False c ar 0 0 (fun _ => 0)) (fun u => some (.int (zI u.1))) (fun _ => zYK np) (fun u => zY cI cW cP cJ ad u.2.2.2 u.2.2.1 np pp pn pg u.2.1) := by
  obtain ⟨hnp, hcr, hgr, hpl⟩ := hYI
  have hca_ := hcr a hra
  have hcb_ := hcr b hrb
  obtain ⟨hpn, hpw, hiq⟩ := hpl i hi
  obtain ⟨⟨hp3, hp4, hp5⟩, hp6, hn1, hn2, hn3⟩ := id hpn
  refine z_startW (cc := cL_convolved) (maxL := 7) (ret := some .int) (hh := [(0, 14, 17, 13), (0, 14, 21, 17)]) (own := RL) (by decide) rfl rfl (Nat.le_of_ble_eq_true rfl) [(0, .ref (ad (4, 0))), (1, .int (zI i)), (2, .int (zI a)), (3, .int (zI b)), (4, .int (zI x)), (5, .ref (ad (18, 0)))] rfl ?_
  intro pp_ ee s mm below meth cc A0 H ls hX hA0 htab hx hb hr hml hts hown hlocks hK hF hI hKA hS hA hl
  have CF : CallFix pp_ mm cc cL_convolved 7 s ([.ref (ad (4, 0)), .int (zI i), .int (zI a), .int (zI b), .int (zI x), .ref (ad (18, 0))] : List Value).toArray wsL_convolved RL := ⟨hx, hb, hml, hown, hts⟩
  refine lv_aload hx hb dL_convolved_0 (lv_at hl 5 rfl) ?_
  refine z_iconst hx hb dL_convolved_2 ?_
  refine lv_aload_n hx hb dL_convolved_3 rfl (lv_at hl 0 rfl) ?_
  refine lv_iload_n hx hb dL_convolved_4 rfl (lv_at hl 1 rfl) ?_
  refine lv_iload_n hx hb dL_convolved_5 rfl (lv_at hl 2 rfl) ?_
  refine lv_iload_n hx hb dL_convolved_6 rfl (lv_at hl 3 rfl) ?_
  refine lv_iload hx hb dL_convolved_7 (lv_at hl 4 rfl) ?_
  have hRc := zf_sub hF [(4, 0), (5, 0), (6, 0), (2, i)] (List.forall_mem_cons.mpr ⟨zKf 4 rfl rfl, (List.forall_mem_cons.mpr ⟨zKf 5 rfl rfl, (List.forall_mem_cons.mpr ⟨zKf 6 rfl rfl, (List.forall_mem_cons.mpr ⟨zK2 hi, (fun _ h => absurd h List.not_mem_nil)⟩)⟩)⟩)⟩) (wc := [((ad (4, 0)), .inr (4, [.ref (ad (5, 0)), .ref (ad (6, 0)), .int (zI np), .ref (ad (7, 0)), .ref (ad (8, 0)), .ref (ad (9, 0)), .ref (ad (10, 0))])), ((ad (5, 0)), .inl (cW, 4, .inr (.inr (.inr (.inr (fun k : Nat => (zRg ad) (k : Int))))))), ((ad (6, 0)), .inl (cP, 8, .inr (.inr (.inr (.inr (fun k : Nat => pg (k : Int))))))), ((ad (2, i)), .inr (1, [.int (zI (pp i)), .int (zI (pn i)), .int (zI (zInv (pp i) (pn i))), .int (zI (wset (pn i))), .int (zI (zGn (pn i))), .ref (ad (3, i))]))]) rfl
  refine zw_catch (E := "java/lang/IndexOutOfBoundsException") (name := "java/lang/IndexOutOfBoundsException") (own := RL) (vx_runV (As := [.int (zI i), .int (zI a), .int (zI b), .int (zI x)]) (rest := [.int (zI 0), .ref (ad (18, 0))]) CF (x_X5_convolved_1d l hl9 D cI cW cP (ad (4, 0)) (ad (5, 0)) (ad (6, 0)) np (ad (7, 0)) (ad (8, 0)) (ad (9, 0)) (ad (10, 0)) (zRg ad) pg i a b x (ad (2, i)) (pp i) (pn i) (ad (3, i)) (ad (0, a)) (ad (0, b)) (by first | omega | assumption) (by exact hiq) (by first | omega | assumption) (by exact zRg_at hra) (by first | omega | assumption) (by exact zRg_at hrb) (by first | omega | assumption) (by first | omega | assumption) (by first | omega | assumption) A0 H.size) (cwV 4 hts gL_convolved_X5_convolved rfl rfl rfl (by decide +kernel) ⟨Nat.le_of_ble_eq_true rfl, Nat.le_of_ble_eq_true rfl⟩) (zw_preTV (va_recv hK hRc (ci := 4) (q0 := 0) rfl rfl) hX hA0 hA hS hRc (hK.sub (tys' := [(cI, .int), (cW, .object RX3), (cP, .object RX2)]) [0, 1, 2] rfl)) rfl rfl hl.1 rfl (lv_room (Nat.le_of_ble_eq_true rfl)) dL_convolved_9 ⟨Nat.le_of_ble_eq_true rfl, Nat.le_of_ble_eq_true rfl⟩) hF hS hA hown [] ⟨0, 14, 17, 13⟩ [⟨0, 14, 21, 17⟩] (htab.trans rfl) (fun _ h => absurd h List.not_mem_nil) rfl (by decide) (hts (.classLink RL 13 "java/lang/IndexOutOfBoundsException") (by decide +kernel)) (z_cast (hts (.initialized "java/lang/IndexOutOfBoundsException") (by decide +kernel))) (fun q H locs hF hS => ?_)
  refine lv_astore (lv' := [(6, .ref q), (0, .ref (ad (4, 0))), (1, .int (zI i)), (2, .int (zI a)), (3, .int (zI b)), (4, .int (zI x)), (5, .ref (ad (18, 0)))]) hx hb dL_convolved_17 hl (by decide) rfl (fun ls hl => ?_)
  have hl := lv_sub hl [1, 2, 3, 4, 5, 6, 0] rfl
  have hl : lv_has ls 7 [(0, .ref (ad (4, 0))), (1, .int (zI i)), (2, .int (zI a)), (3, .int (zI b)), (4, .int (zI x)), (5, .ref (ad (18, 0))), (6, .ref q)] := hl
  refine z_iconst hx hb dL_convolved_19 ?_
  refine W.widen (k := 2) (n := 70) (Nat.le_of_ble_eq_true rfl) (Nat.le_of_ble_eq_true rfl) ?_
  exact zw_iret hx hb hr hlocks (1, o, c, ar) rfl (zWp_err (by decide)) hF hI hKA hS dL_convolved_20

set_option maxHeartbeats 4000000 in
set_option maxRecDepth 100000 in
theorem w_convolved_e2a (l : Launch) (hl9 : l.stackTraces = false) (D : va_G) (cI cW cP cJ : ClassId) (ad : zk → Nat) (ar : zk → Int → Int) (c : Int → Int) (np : Int) (pp pn : Int → Int) (pg : Int → Option Nat) (o : Nat → Int64) (i : Int) (a : Int) (b : Int) (x : Int) (hYI : zYI ad ar c np pp pn pg) (hi : 0 ≤ i ∧ i < np) (hra : 0 ≤ a ∧ a < 4) (hrb : 0 ≤ b ∧ b < 4) (hx_ : 0 ≤ x ∧ x < pn i) (hfa : pn i < c a) : zWC l yL_convolved wsL_convolved D [(cI, .int), (cW, .object RX3), (cP, .object RX2), (cJ, .long)] (zYK np) (zY cI cW cP cJ ad ar c np pp pn pg o) [.ref (ad (4, 0)), .int (zI i), .int (zI a), .int (zI b), .int (zI x), .ref (ad (18, 0))] (S := Int × (Nat → Int64) × (Int → Int) × (zk → Int → Int)) (zWp 2 (cyc (pp i) (pn i) (fun j => zG ar c a j % pp i) (fun j => zG ar c b j % pp i) x) False c ar 0 0 (fun _ => 0)) (fun u => some (.int (zI u.1))) (fun _ => zYK np) (fun u => zY cI cW cP cJ ad u.2.2.2 u.2.2.1 np pp pn pg u.2.1) := by
  obtain ⟨hnp, hcr, hgr, hpl⟩ := hYI
  have hca_ := hcr a hra
  have hcb_ := hcr b hrb
  obtain ⟨hpn, hpw, hiq⟩ := hpl i hi
  obtain ⟨⟨hp3, hp4, hp5⟩, hp6, hn1, hn2, hn3⟩ := id hpn
  refine z_startW (cc := cL_convolved) (maxL := 7) (ret := some .int) (hh := [(0, 14, 17, 13), (0, 14, 21, 17)]) (own := RL) (by decide) rfl rfl (Nat.le_of_ble_eq_true rfl) [(0, .ref (ad (4, 0))), (1, .int (zI i)), (2, .int (zI a)), (3, .int (zI b)), (4, .int (zI x)), (5, .ref (ad (18, 0)))] rfl ?_
  intro pp_ ee s mm below meth cc A0 H ls hX hA0 htab hx hb hr hml hts hown hlocks hK hF hI hKA hS hA hl
  have CF : CallFix pp_ mm cc cL_convolved 7 s ([.ref (ad (4, 0)), .int (zI i), .int (zI a), .int (zI b), .int (zI x), .ref (ad (18, 0))] : List Value).toArray wsL_convolved RL := ⟨hx, hb, hml, hown, hts⟩
  refine lv_aload hx hb dL_convolved_0 (lv_at hl 5 rfl) ?_
  refine z_iconst hx hb dL_convolved_2 ?_
  refine lv_aload_n hx hb dL_convolved_3 rfl (lv_at hl 0 rfl) ?_
  refine lv_iload_n hx hb dL_convolved_4 rfl (lv_at hl 1 rfl) ?_
  refine lv_iload_n hx hb dL_convolved_5 rfl (lv_at hl 2 rfl) ?_
  refine lv_iload_n hx hb dL_convolved_6 rfl (lv_at hl 3 rfl) ?_
  refine lv_iload hx hb dL_convolved_7 (lv_at hl 4 rfl) ?_
  have hRc := zf_sub hF [(4, 0), (5, 0), (6, 0), (2, i), (0, a)] (List.forall_mem_cons.mpr ⟨zKf 4 rfl rfl, (List.forall_mem_cons.mpr ⟨zKf 5 rfl rfl, (List.forall_mem_cons.mpr ⟨zKf 6 rfl rfl, (List.forall_mem_cons.mpr ⟨zK2 hi, (List.forall_mem_cons.mpr ⟨zK0 hra, (fun _ h => absurd h List.not_mem_nil)⟩)⟩)⟩)⟩)⟩) (wc := [((ad (4, 0)), .inr (4, [.ref (ad (5, 0)), .ref (ad (6, 0)), .int (zI np), .ref (ad (7, 0)), .ref (ad (8, 0)), .ref (ad (9, 0)), .ref (ad (10, 0))])), ((ad (5, 0)), .inl (cW, 4, .inr (.inr (.inr (.inr (fun k : Nat => (zRg ad) (k : Int))))))), ((ad (6, 0)), .inl (cP, 8, .inr (.inr (.inr (.inr (fun k : Nat => pg (k : Int))))))), ((ad (2, i)), .inr (1, [.int (zI (pp i)), .int (zI (pn i)), .int (zI (zInv (pp i) (pn i))), .int (zI (wset (pn i))), .int (zI (zGn (pn i))), .ref (ad (3, i))])), ((ad (0, a)), .inr (2, [.ref (ad (1, a)), .int (zI (c a))]))]) rfl
  refine zw_catch (E := "java/lang/IllegalStateException") (name := "java/lang/IllegalStateException") (own := RL) (vx_runV (As := [.int (zI i), .int (zI a), .int (zI b), .int (zI x)]) (rest := [.int (zI 0), .ref (ad (18, 0))]) CF (x_X5_convolved_2a l hl9 D cI cW cP (ad (4, 0)) (ad (5, 0)) (ad (6, 0)) np (ad (7, 0)) (ad (8, 0)) (ad (9, 0)) (ad (10, 0)) (zRg ad) pg i a b x (ad (2, i)) (pp i) (pn i) (ad (3, i)) (ad (0, a)) (ad (1, a)) (c a) (ad (0, b)) (by first | omega | assumption) (by exact hiq) (by first | omega | assumption) (by exact zRg_at hra) (by first | omega | assumption) (by exact zRg_at hrb) (by first | omega | assumption) (by first | omega | assumption) A0 H.size) (cwV 4 hts gL_convolved_X5_convolved rfl rfl rfl (by decide +kernel) ⟨Nat.le_of_ble_eq_true rfl, Nat.le_of_ble_eq_true rfl⟩) (zw_preTV (va_recv hK hRc (ci := 4) (q0 := 0) rfl rfl) hX hA0 hA hS hRc (hK.sub (tys' := [(cI, .int), (cW, .object RX3), (cP, .object RX2)]) [0, 1, 2] rfl)) rfl rfl hl.1 rfl (lv_room (Nat.le_of_ble_eq_true rfl)) dL_convolved_9 ⟨Nat.le_of_ble_eq_true rfl, Nat.le_of_ble_eq_true rfl⟩) hF hS hA hown [⟨0, 14, 17, 13⟩] ⟨0, 14, 21, 17⟩ [] (htab.trans rfl) (List.forall_mem_cons.mpr ⟨Or.inr ⟨by decide, _, hts (.classLink RL 13 "java/lang/IndexOutOfBoundsException") (by decide +kernel), hX.2.2.2.2.1⟩, (fun _ h => absurd h List.not_mem_nil)⟩) rfl (by decide) (hts (.classLink RL 17 "java/lang/IllegalStateException") (by decide +kernel)) (z_cast (hts (.initialized "java/lang/IllegalStateException") (by decide +kernel))) (fun q H locs hF hS => ?_)
  refine lv_astore (lv' := [(6, .ref q), (0, .ref (ad (4, 0))), (1, .int (zI i)), (2, .int (zI a)), (3, .int (zI b)), (4, .int (zI x)), (5, .ref (ad (18, 0)))]) hx hb dL_convolved_21 hl (by decide) rfl (fun ls hl => ?_)
  have hl := lv_sub hl [1, 2, 3, 4, 5, 6, 0] rfl
  have hl : lv_has ls 7 [(0, .ref (ad (4, 0))), (1, .int (zI i)), (2, .int (zI a)), (3, .int (zI b)), (4, .int (zI x)), (5, .ref (ad (18, 0))), (6, .ref q)] := hl
  refine z_iconst hx hb dL_convolved_23 ?_
  refine W.widen (k := 2) (n := 70) (Nat.le_of_ble_eq_true rfl) (Nat.le_of_ble_eq_true rfl) ?_
  exact zw_iret hx hb hr hlocks (2, o, c, ar) rfl (zWp_err (by decide)) hF hI hKA hS dL_convolved_24

set_option maxHeartbeats 4000000 in
set_option maxRecDepth 100000 in
theorem w_convolved_e2b (l : Launch) (hl9 : l.stackTraces = false) (D : va_G) (cI cW cP cJ : ClassId) (ad : zk → Nat) (ar : zk → Int → Int) (c : Int → Int) (np : Int) (pp pn : Int → Int) (pg : Int → Option Nat) (o : Nat → Int64) (i : Int) (a : Int) (b : Int) (x : Int) (hYI : zYI ad ar c np pp pn pg) (hi : 0 ≤ i ∧ i < np) (hra : 0 ≤ a ∧ a < 4) (hrb : 0 ≤ b ∧ b < 4) (hx_ : 0 ≤ x ∧ x < pn i) (hfa : c a ≤ pn i) (hfb : pn i < c b) : zWC l yL_convolved wsL_convolved D [(cI, .int), (cW, .object RX3), (cP, .object RX2), (cJ, .long)] (zYK np) (zY cI cW cP cJ ad ar c np pp pn pg o) [.ref (ad (4, 0)), .int (zI i), .int (zI a), .int (zI b), .int (zI x), .ref (ad (18, 0))] (S := Int × (Nat → Int64) × (Int → Int) × (zk → Int → Int)) (zWp 2 (cyc (pp i) (pn i) (fun j => zG ar c a j % pp i) (fun j => zG ar c b j % pp i) x) False c ar 0 0 (fun _ => 0)) (fun u => some (.int (zI u.1))) (fun _ => zYK np) (fun u => zY cI cW cP cJ ad u.2.2.2 u.2.2.1 np pp pn pg u.2.1) := by
  obtain ⟨hnp, hcr, hgr, hpl⟩ := hYI
  have hca_ := hcr a hra
  have hcb_ := hcr b hrb
  obtain ⟨hpn, hpw, hiq⟩ := hpl i hi
  obtain ⟨⟨hp3, hp4, hp5⟩, hp6, hn1, hn2, hn3⟩ := id hpn
  refine z_startW (cc := cL_convolved) (maxL := 7) (ret := some .int) (hh := [(0, 14, 17, 13), (0, 14, 21, 17)]) (own := RL) (by decide) rfl rfl (Nat.le_of_ble_eq_true rfl) [(0, .ref (ad (4, 0))), (1, .int (zI i)), (2, .int (zI a)), (3, .int (zI b)), (4, .int (zI x)), (5, .ref (ad (18, 0)))] rfl ?_
  intro pp_ ee s mm below meth cc A0 H ls hX hA0 htab hx hb hr hml hts hown hlocks hK hF hI hKA hS hA hl
  have CF : CallFix pp_ mm cc cL_convolved 7 s ([.ref (ad (4, 0)), .int (zI i), .int (zI a), .int (zI b), .int (zI x), .ref (ad (18, 0))] : List Value).toArray wsL_convolved RL := ⟨hx, hb, hml, hown, hts⟩
  refine lv_aload hx hb dL_convolved_0 (lv_at hl 5 rfl) ?_
  refine z_iconst hx hb dL_convolved_2 ?_
  refine lv_aload_n hx hb dL_convolved_3 rfl (lv_at hl 0 rfl) ?_
  refine lv_iload_n hx hb dL_convolved_4 rfl (lv_at hl 1 rfl) ?_
  refine lv_iload_n hx hb dL_convolved_5 rfl (lv_at hl 2 rfl) ?_
  refine lv_iload_n hx hb dL_convolved_6 rfl (lv_at hl 3 rfl) ?_
  refine lv_iload hx hb dL_convolved_7 (lv_at hl 4 rfl) ?_
  have hRc := zf_sub hF [(4, 0), (5, 0), (6, 0), (2, i), (0, a), (0, b)] (List.forall_mem_cons.mpr ⟨zKf 4 rfl rfl, (List.forall_mem_cons.mpr ⟨zKf 5 rfl rfl, (List.forall_mem_cons.mpr ⟨zKf 6 rfl rfl, (List.forall_mem_cons.mpr ⟨zK2 hi, (List.forall_mem_cons.mpr ⟨zK0 hra, (List.forall_mem_cons.mpr ⟨zK0 hrb, (fun _ h => absurd h List.not_mem_nil)⟩)⟩)⟩)⟩)⟩)⟩) (wc := [((ad (4, 0)), .inr (4, [.ref (ad (5, 0)), .ref (ad (6, 0)), .int (zI np), .ref (ad (7, 0)), .ref (ad (8, 0)), .ref (ad (9, 0)), .ref (ad (10, 0))])), ((ad (5, 0)), .inl (cW, 4, .inr (.inr (.inr (.inr (fun k : Nat => (zRg ad) (k : Int))))))), ((ad (6, 0)), .inl (cP, 8, .inr (.inr (.inr (.inr (fun k : Nat => pg (k : Int))))))), ((ad (2, i)), .inr (1, [.int (zI (pp i)), .int (zI (pn i)), .int (zI (zInv (pp i) (pn i))), .int (zI (wset (pn i))), .int (zI (zGn (pn i))), .ref (ad (3, i))])), ((ad (0, a)), .inr (2, [.ref (ad (1, a)), .int (zI (c a))])), ((ad (0, b)), .inr (2, [.ref (ad (1, b)), .int (zI (c b))]))]) rfl
  refine zw_catch (E := "java/lang/IllegalStateException") (name := "java/lang/IllegalStateException") (own := RL) (vx_runV (As := [.int (zI i), .int (zI a), .int (zI b), .int (zI x)]) (rest := [.int (zI 0), .ref (ad (18, 0))]) CF (x_X5_convolved_2b l hl9 D cI cW cP (ad (4, 0)) (ad (5, 0)) (ad (6, 0)) np (ad (7, 0)) (ad (8, 0)) (ad (9, 0)) (ad (10, 0)) (zRg ad) pg i a b x (ad (2, i)) (pp i) (pn i) (ad (3, i)) (ad (0, a)) (ad (1, a)) (c a) (ad (0, b)) (ad (1, b)) (c b) (by first | omega | assumption) (by exact hiq) (by first | omega | assumption) (by exact zRg_at hra) (by first | omega | assumption) (by exact zRg_at hrb) (by first | omega | assumption) (by first | omega | assumption) (by first | omega | assumption) A0 H.size) (cwV 4 hts gL_convolved_X5_convolved rfl rfl rfl (by decide +kernel) ⟨Nat.le_of_ble_eq_true rfl, Nat.le_of_ble_eq_true rfl⟩) (zw_preTV (va_recv hK hRc (ci := 4) (q0 := 0) rfl rfl) hX hA0 hA hS hRc (hK.sub (tys' := [(cI, .int), (cW, .object RX3), (cP, .object RX2)]) [0, 1, 2] rfl)) rfl rfl hl.1 rfl (lv_room (Nat.le_of_ble_eq_true rfl)) dL_convolved_9 ⟨Nat.le_of_ble_eq_true rfl, Nat.le_of_ble_eq_true rfl⟩) hF hS hA hown [⟨0, 14, 17, 13⟩] ⟨0, 14, 21, 17⟩ [] (htab.trans rfl) (List.forall_mem_cons.mpr ⟨Or.inr ⟨by decide, _, hts (.classLink RL 13 "java/lang/IndexOutOfBoundsException") (by decide +kernel), hX.2.2.2.2.1⟩, (fun _ h => absurd h List.not_mem_nil)⟩) rfl (by decide) (hts (.classLink RL 17 "java/lang/IllegalStateException") (by decide +kernel)) (z_cast (hts (.initialized "java/lang/IllegalStateException") (by decide +kernel))) (fun q H locs hF hS => ?_)
  refine lv_astore (lv' := [(6, .ref q), (0, .ref (ad (4, 0))), (1, .int (zI i)), (2, .int (zI a)), (3, .int (zI b)), (4, .int (zI x)), (5, .ref (ad (18, 0)))]) hx hb dL_convolved_21 hl (by decide) rfl (fun ls hl => ?_)
  have hl := lv_sub hl [1, 2, 3, 4, 5, 6, 0] rfl
  have hl : lv_has ls 7 [(0, .ref (ad (4, 0))), (1, .int (zI i)), (2, .int (zI a)), (3, .int (zI b)), (4, .int (zI x)), (5, .ref (ad (18, 0))), (6, .ref q)] := hl
  refine z_iconst hx hb dL_convolved_23 ?_
  refine W.widen (k := 2) (n := 70) (Nat.le_of_ble_eq_true rfl) (Nat.le_of_ble_eq_true rfl) ?_
  exact zw_iret hx hb hr hlocks (2, o, c, ar) rfl (zWp_err (by decide)) hF hI hKA hS dL_convolved_24

set_option maxHeartbeats 4000000 in
set_option maxRecDepth 100000 in
theorem w_convolved_ok (l : Launch) (hl9 : l.stackTraces = false) (D : va_G) (cI cW cP cJ : ClassId) (ad : zk → Nat) (ar : zk → Int → Int) (c : Int → Int) (np : Int) (pp pn : Int → Int) (pg : Int → Option Nat) (o : Nat → Int64) (i : Int) (a : Int) (b : Int) (x : Int) (hYI : zYI ad ar c np pp pn pg) (hi : 0 ≤ i ∧ i < np) (hra : 0 ≤ a ∧ a < 4) (hrb : 0 ≤ b ∧ b < 4) (hx_ : 0 ≤ x ∧ x < pn i) (hfa : c a ≤ pn i) (hfb : c b ≤ pn i) : zWC l yL_convolved wsL_convolved D [(cI, .int), (cW, .object RX3), (cP, .object RX2), (cJ, .long)] (zYK np) (zY cI cW cP cJ ad ar c np pp pn pg o) [.ref (ad (4, 0)), .int (zI i), .int (zI a), .int (zI b), .int (zI x), .ref (ad (18, 0))] (S := Int × (Nat → Int64) × (Int → Int) × (zk → Int → Int)) (zWp 0 (cyc (pp i) (pn i) (fun j => zG ar c a j % pp i) (fun j => zG ar c b j % pp i) x) False c ar 0 0 (fun _ => 0)) (fun u => some (.int (zI u.1))) (fun _ => zYK np) (fun u => zY cI cW cP cJ ad u.2.2.2 u.2.2.1 np pp pn pg u.2.1) := by
  obtain ⟨hnp, hcr, hgr, hpl⟩ := hYI
  have hca_ := hcr a hra
  have hcb_ := hcr b hrb
  obtain ⟨hpn, hpw, hiq⟩ := hpl i hi
  obtain ⟨⟨hp3, hp4, hp5⟩, hp6, hn1, hn2, hn3⟩ := id hpn
  have hvr := z_rem (a := zT (fun j => (rowAt (ar (1, a)) (c a) j % pp i) * (rowAt (ar (1, b)) (c b) ((x - j + pn i) % pn i) % pp i)) (pn i)) (n := pp i) (by omega)
  refine z_startW (cc := cL_convolved) (maxL := 7) (ret := some .int) (hh := [(0, 14, 17, 13), (0, 14, 21, 17)]) (own := RL) (by decide) rfl rfl (Nat.le_of_ble_eq_true rfl) [(0, .ref (ad (4, 0))), (1, .int (zI i)), (2, .int (zI a)), (3, .int (zI b)), (4, .int (zI x)), (5, .ref (ad (18, 0)))] rfl ?_
  intro pp_ ee s mm below meth cc A0 H ls hX hA0 htab hx hb hr hml hts hown hlocks hK hF hI hKA hS hA hl
  have CF : CallFix pp_ mm cc cL_convolved 7 s ([.ref (ad (4, 0)), .int (zI i), .int (zI a), .int (zI b), .int (zI x), .ref (ad (18, 0))] : List Value).toArray wsL_convolved RL := ⟨hx, hb, hml, hown, hts⟩
  refine lv_aload hx hb dL_convolved_0 (lv_at hl 5 rfl) ?_
  refine z_iconst hx hb dL_convolved_2 ?_
  refine lv_aload_n hx hb dL_convolved_3 rfl (lv_at hl 0 rfl) ?_
  refine lv_iload_n hx hb dL_convolved_4 rfl (lv_at hl 1 rfl) ?_
  refine lv_iload_n hx hb dL_convolved_5 rfl (lv_at hl 2 rfl) ?_
  refine lv_iload_n hx hb dL_convolved_6 rfl (lv_at hl 3 rfl) ?_
  refine lv_iload hx hb dL_convolved_7 (lv_at hl 4 rfl) ?_
  have hRc := zf_sub hF [(4, 0), (5, 0), (6, 0), (0, a), (1, a), (0, b), (1, b), (2, i)] (List.forall_mem_cons.mpr ⟨zKf 4 rfl rfl, (List.forall_mem_cons.mpr ⟨zKf 5 rfl rfl, (List.forall_mem_cons.mpr ⟨zKf 6 rfl rfl, (List.forall_mem_cons.mpr ⟨zK0 hra, (List.forall_mem_cons.mpr ⟨zK1 hra, (List.forall_mem_cons.mpr ⟨zK0 hrb, (List.forall_mem_cons.mpr ⟨zK1 hrb, (List.forall_mem_cons.mpr ⟨zK2 hi, (fun _ h => absurd h List.not_mem_nil)⟩)⟩)⟩)⟩)⟩)⟩)⟩)⟩) (wc := [((ad (4, 0)), .inr (4, [.ref (ad (5, 0)), .ref (ad (6, 0)), .int (zI np), .ref (ad (7, 0)), .ref (ad (8, 0)), .ref (ad (9, 0)), .ref (ad (10, 0))])), ((ad (5, 0)), .inl (cW, 4, .inr (.inr (.inr (.inr (fun k : Nat => (zRg ad) (k : Int))))))), ((ad (6, 0)), .inl (cP, 8, .inr (.inr (.inr (.inr (fun k : Nat => pg (k : Int))))))), ((ad (0, a)), .inr (2, [.ref (ad (1, a)), .int (zI (c a))])), ((ad (1, a)), .inl (cI, 64, .inl (zA (ar (1, a))))), ((ad (0, b)), .inr (2, [.ref (ad (1, b)), .int (zI (c b))])), ((ad (1, b)), .inl (cI, 64, .inl (zA (ar (1, b))))), ((ad (2, i)), .inr (1, [.int (zI (pp i)), .int (zI (pn i)), .int (zI (zInv (pp i) (pn i))), .int (zI (wset (pn i))), .int (zI (zGn (pn i))), .ref (ad (3, i))]))]) rfl
  have hPc := zf_sub hF [(9, 0), (10, 0)] (List.forall_mem_cons.mpr ⟨zKf 9 rfl rfl, (List.forall_mem_cons.mpr ⟨zKf 10 rfl rfl, (fun _ h => absurd h List.not_mem_nil)⟩)⟩) (wc := [((ad (9, 0)), .inl (cI, 64, .inl (zA (ar (9, 0))))), ((ad (10, 0)), .inl (cI, 64, .inl (zA (ar (10, 0)))))]) rfl
  have hDc := zf_subD hI hKA [(9, 0), (10, 0)] (List.forall_mem_cons.mpr ⟨zKf 9 rfl rfl, (List.forall_mem_cons.mpr ⟨zKf 10 rfl rfl, (fun _ h => absurd h List.not_mem_nil)⟩)⟩) (by simp) (wc := [((ad (9, 0)), .inl (cI, 64, .inl (zA (ar (9, 0))))), ((ad (10, 0)), .inl (cI, 64, .inl (zA (ar (10, 0)))))]) rfl
  have hXc := zf_dis hI [(9, 0), (10, 0)] [(4, 0), (5, 0), (6, 0), (0, a), (1, a), (0, b), (1, b), (2, i)] (List.forall_mem_cons.mpr ⟨zKf 9 rfl rfl, (List.forall_mem_cons.mpr ⟨zKf 10 rfl rfl, (fun _ h => absurd h List.not_mem_nil)⟩)⟩) (List.forall_mem_cons.mpr ⟨zKf 4 rfl rfl, (List.forall_mem_cons.mpr ⟨zKf 5 rfl rfl, (List.forall_mem_cons.mpr ⟨zKf 6 rfl rfl, (List.forall_mem_cons.mpr ⟨zK0 hra, (List.forall_mem_cons.mpr ⟨zK1 hra, (List.forall_mem_cons.mpr ⟨zK0 hrb, (List.forall_mem_cons.mpr ⟨zK1 hrb, (List.forall_mem_cons.mpr ⟨zK2 hi, (fun _ h => absurd h List.not_mem_nil)⟩)⟩)⟩)⟩)⟩)⟩)⟩)⟩) (by simp) (wc := [((ad (9, 0)), .inl (cI, 64, .inl (zA (ar (9, 0))))), ((ad (10, 0)), .inl (cI, 64, .inl (zA (ar (10, 0)))))]) (rc := [((ad (4, 0)), .inr (4, [.ref (ad (5, 0)), .ref (ad (6, 0)), .int (zI np), .ref (ad (7, 0)), .ref (ad (8, 0)), .ref (ad (9, 0)), .ref (ad (10, 0))])), ((ad (5, 0)), .inl (cW, 4, .inr (.inr (.inr (.inr (fun k : Nat => (zRg ad) (k : Int))))))), ((ad (6, 0)), .inl (cP, 8, .inr (.inr (.inr (.inr (fun k : Nat => pg (k : Int))))))), ((ad (0, a)), .inr (2, [.ref (ad (1, a)), .int (zI (c a))])), ((ad (1, a)), .inl (cI, 64, .inl (zA (ar (1, a))))), ((ad (0, b)), .inr (2, [.ref (ad (1, b)), .int (zI (c b))])), ((ad (1, b)), .inl (cI, 64, .inl (zA (ar (1, b))))), ((ad (2, i)), .inr (1, [.int (zI (pp i)), .int (zI (pn i)), .int (zI (zInv (pp i) (pn i))), .int (zI (wset (pn i))), .int (zI (zGn (pn i))), .ref (ad (3, i))]))]) rfl rfl
  refine zf_call (wc := [((ad (9, 0)), .inl (cI, 64, .inl (zA (ar (9, 0))))), ((ad (10, 0)), .inl (cI, 64, .inl (zA (ar (10, 0)))))]) (va_runV (As := [.int (zI i), .int (zI a), .int (zI b), .int (zI x)]) (rest := [.int (zI 0), .ref (ad (18, 0))]) CF (c_X5_convolved_ok l D cI cW cP (ad (4, 0)) (ad (5, 0)) (ad (6, 0)) np (ad (7, 0)) (ad (8, 0)) (ad (9, 0)) (ad (10, 0)) (zRg ad) pg i a b x (ad (2, i)) (pp i) (pn i) (ad (3, i)) (ar (3, i)) (ad (0, a)) (ad (1, a)) (c a) (ar (1, a)) (ad (0, b)) (ad (1, b)) (c b) (ar (1, b)) (ar (9, 0)) (ar (10, 0)) (by first | omega | assumption) (by exact hiq) (by first | omega | assumption) (by exact zRg_at hra) (by first | omega | assumption) (by exact zRg_at hrb) (by first | omega | assumption) (by first | omega | assumption) (by first | omega | assumption) (by exact hgr a hra) (by exact hgr b hrb) (by first | omega | assumption) (by first | omega | assumption) (by first | omega | assumption) H.size) (cwV 4 hts gL_convolved_X5_convolved rfl rfl rfl (by decide +kernel) ⟨Nat.le_of_ble_eq_true rfl, Nat.le_of_ble_eq_true rfl⟩) (z_preV (va_recv hK hRc (ci := 4) (q0 := 0) rfl rfl) hPc hDc hRc hXc (hK.sub (tys' := [(cI, .int), (cW, .object RX3), (cP, .object RX2)]) [0, 1, 2] rfl)) rfl rfl hl.1 rfl (lv_room (Nat.le_of_ble_eq_true rfl)) dL_convolved_9 ⟨Nat.le_of_ble_eq_true rfl, Nat.le_of_ble_eq_true rfl⟩) hF hI hKA hS hA [(9, 0), (10, 0)] [(9, 0), (10, 0)] (List.forall_mem_cons.mpr ⟨zKf 9 rfl rfl, (List.forall_mem_cons.mpr ⟨zKf 10 rfl rfl, (fun _ h => absurd h List.not_mem_nil)⟩)⟩) rfl (fun _ => zYK np) (fun (gl2, gr2) => zY cI cW cP cJ ad (zUA (zUA ar (9, 0) gl2) (10, 0) gr2) c np pp pn pg o) (fun u hu => by
        obtain ⟨gl2, gr2⟩ := u
        show ([(ad (9, 0), .inl (cI, 64, .inl (zA ((zUA (zUA ar (9, 0) gl2) (10, 0) gr2) (9, 0))))), (ad (10, 0), .inl (cI, 64, .inl (zA ((zUA (zUA ar (9, 0) gl2) (10, 0) gr2) (10, 0)))))] : va_W) = _
        rw [show (zUA (zUA ar (9, 0) gl2) (10, 0) gr2) (9, 0) = gl2 from by simp [zUA], show (zUA (zUA ar (9, 0) gl2) (10, 0) gr2) (10, 0) = gr2 from by simp [zUA]]) (fun u hu k hk => by
        obtain ⟨gl2, gr2⟩ := u
        by_cases hm : k ∈ [(9, 0), (10, 0)]
        · exact Or.inl hm
        · refine Or.inr ⟨hk, hm, ?_⟩
          simp only [List.mem_cons, List.not_mem_nil, or_false, not_or] at hm
          exact zY_ext (by simp [zUA, hm]) (fun h0 => rfl)) (cells' := 0) (slots' := 0) rfl rfl (fun u H locs hp_ hF hI hKA hS => ?_)
  obtain ⟨gl2, gr2⟩ := u
  have hp_ : True := hp_
  have hF : zFP D (zYK np) (zY cI cW cP cJ ad (zUA (zUA ar (9, 0) gl2) (10, 0) gr2) c np pp pn pg o) H := hF
  have hI : zIn (zYK np) (zY cI cW cP cJ ad (zUA (zUA ar (9, 0) gl2) (10, 0) gr2) c np pp pn pg o) := hI
  have hrg_ : -2147483648 ≤ cyc (pp i) (pn i) (fun j => rowAt (ar (1, a)) (c a) j % (pp i)) (fun j => rowAt (ar (1, b)) (c b) j % (pp i)) x ∧ cyc (pp i) (pn i) (fun j => rowAt (ar (1, a)) (c a) j % (pp i)) (fun j => rowAt (ar (1, b)) (c b) j % (pp i)) x ≤ 2147483647 := by have hvr2 : 0 ≤ cyc (pp i) (pn i) (fun j => rowAt (ar (1, a)) (c a) j % pp i) (fun j => rowAt (ar (1, b)) (c b) j % pp i) x ∧ cyc (pp i) (pn i) (fun j => rowAt (ar (1, a)) (c a) j % pp i) (fun j => rowAt (ar (1, b)) (c b) j % pp i) x < pp i := hvr; omega
  refine z_i2l hx hb dL_convolved_12 hrg_ ?_
  refine zw_last hx hb hK hF hI hKA hS (ko := (18, 0)) (zKf 18 rfl rfl) (v := cyc (pp i) (pn i) (fun j => rowAt (ar (1, a)) (c a) j % (pp i)) (fun j => rowAt (ar (1, b)) (c b) j % (pp i)) x) rfl 3 rfl dL_convolved_13 (zY cI cW cP cJ ad (zUA (zUA ar (9, 0) gl2) (10, 0) gr2) c np pp pn pg (vp_updL o 0 (zL (cyc (pp i) (pn i) (fun j => rowAt (ar (1, a)) (c a) j % (pp i)) (fun j => rowAt (ar (1, b)) (c b) j % (pp i)) x)))) (fun k hk hne => zY_out hk hne) rfl (fun H locs hF hI hKA hS => ?_)
  refine lv_goto (tgt := 25) hx hb dL_convolved_14 (by decide) ?_
  refine z_iconst hx hb dL_convolved_25 ?_
  refine W.widen (k := 2) (n := 70) (Nat.le_of_ble_eq_true rfl) (Nat.le_of_ble_eq_true rfl) ?_
  have hv_e : cyc (pp i) (pn i) (fun j => rowAt (ar (1, a)) (c a) j % (pp i)) (fun j => rowAt (ar (1, b)) (c b) j % (pp i)) x = cyc (pp i) (pn i) (fun j => zG ar c a j % pp i) (fun j => zG ar c b j % pp i) x := by rfl
  rw [hv_e] at hrg_
  have hv_0 : (vp_updL o 0 (zL (cyc (pp i) (pn i) (fun j => rowAt (ar (1, a)) (c a) j % (pp i)) (fun j => rowAt (ar (1, b)) (c b) j % (pp i)) x))) 0 = zL (cyc (pp i) (pn i) (fun j => zG ar c a j % pp i) (fun j => zG ar c b j % pp i) x) := (show vp_updL o 0 (zL (cyc (pp i) (pn i) (fun j => rowAt (ar (1, a)) (c a) j % (pp i)) (fun j => rowAt (ar (1, b)) (c b) j % (pp i)) x)) 0 = zL (cyc (pp i) (pn i) (fun j => rowAt (ar (1, a)) (c a) j % (pp i)) (fun j => rowAt (ar (1, b)) (c b) j % (pp i)) x) from if_pos rfl).trans (congrArg zL hv_e)
  exact zw_iret hx hb hr hlocks (0, vp_updL o 0 (zL (cyc (pp i) (pn i) (fun j => rowAt (ar (1, a)) (c a) j % (pp i)) (fun j => rowAt (ar (1, b)) (c b) j % (pp i)) x)), c, zUA (zUA ar (9, 0) gl2) (10, 0) gr2) rfl (zWp_ro hv_0 hrg_ (fun r => by simp [zUA]) (fun j => by simp [zUA])) hF hI hKA hS dL_convolved_26

set_option maxHeartbeats 4000000 in
set_option maxRecDepth 100000 in
theorem w_filter_e1a (l : Launch) (hl9 : l.stackTraces = false) (D : va_G) (cI cW cP cJ : ClassId) (ad : zk → Nat) (ar : zk → Int → Int) (c : Int → Int) (np : Int) (pp pn : Int → Int) (pg : Int → Option Nat) (o : Nat → Int64) (a : Int) (b : Int) (t : Int) (bl : Int) (sv : Int) (hYI : zYI ad ar c np pp pn pg) (ha_bl : -2147483648 ≤ bl ∧ bl ≤ 2147483647) (hsv : 0 ≤ sv ∧ sv ≤ 1) (ha_a : -2147483648 ≤ a ∧ a ≤ 2147483647) (ha_b : -2147483648 ≤ b ∧ b ≤ 2147483647) (ha_t : -2147483648 ≤ t ∧ t ≤ 2147483647) (hba : ¬ (0 ≤ a ∧ a < 4)) : zWC l yL_filter wsL_filter D [(cI, .int), (cW, .object RX3), (cP, .object RX2), (cJ, .long)] (zYK np) (zY cI cW cP cJ ad ar c np pp pn pg o) [.ref (ad (4, 0)), .int (zI a), .int (zI b), .int (zI t), .int (zI bl), .int (zI sv), .ref (ad (18, 0))] (S := Int × (Nat → Int64) × (Int → Int) × (zk → Int → Int)) (zWp 1 (c a + c b - 1) True c ar t (c a + c b - 1) (zLn (zG ar c) c a b)) (fun u => some (.int (zI u.1))) (fun _ => zYK np) (fun u => zY cI cW cP cJ ad u.2.2.2 u.2.2.1 np pp pn pg u.2.1) := by
  obtain ⟨hnp, hcr, hgr, hpl⟩ := hYI
  refine z_startW (cc := cL_filter) (maxL := 8) (ret := some .int) (hh := [(0, 16, 19, 13), (0, 16, 23, 15), (0, 16, 27, 17)]) (own := RL) (by decide) rfl rfl (Nat.le_of_ble_eq_true rfl) [(0, .ref (ad (4, 0))), (1, .int (zI a)), (2, .int (zI b)), (3, .int (zI t)), (4, .int (zI bl)), (5, .int (zI sv)), (6, .ref (ad (18, 0)))] rfl ?_
  intro pp_ ee s mm below meth cc A0 H ls hX hA0 htab hx hb hr hml hts hown hlocks hK hF hI hKA hS hA hl
  have CF : CallFix pp_ mm cc cL_filter 8 s ([.ref (ad (4, 0)), .int (zI a), .int (zI b), .int (zI t), .int (zI bl), .int (zI sv), .ref (ad (18, 0))] : List Value).toArray wsL_filter RL := ⟨hx, hb, hml, hown, hts⟩
  refine lv_aload hx hb dL_filter_0 (lv_at hl 6 rfl) ?_
  refine z_iconst hx hb dL_filter_2 ?_
  refine lv_aload_n hx hb dL_filter_3 rfl (lv_at hl 0 rfl) ?_
  refine lv_iload_n hx hb dL_filter_4 rfl (lv_at hl 1 rfl) ?_
  refine lv_iload_n hx hb dL_filter_5 rfl (lv_at hl 2 rfl) ?_
  refine lv_iload_n hx hb dL_filter_6 rfl (lv_at hl 3 rfl) ?_
  refine lv_iload hx hb dL_filter_7 (lv_at hl 4 rfl) ?_
  refine lv_iload hx hb dL_filter_9 (lv_at hl 5 rfl) ?_
  have hRc := zf_sub hF [(4, 0)] (List.forall_mem_cons.mpr ⟨zKf 4 rfl rfl, (fun _ h => absurd h List.not_mem_nil)⟩) (wc := [((ad (4, 0)), .inr (4, [.ref (ad (5, 0)), .ref (ad (6, 0)), .int (zI np), .ref (ad (7, 0)), .ref (ad (8, 0)), .ref (ad (9, 0)), .ref (ad (10, 0))]))]) rfl
  refine zw_catch (E := "java/lang/IndexOutOfBoundsException") (name := "java/lang/IndexOutOfBoundsException") (own := RL) (vx_runV (As := [.int (zI a), .int (zI b), .int (zI t), .int (zI bl), .int (zI sv)]) (rest := [.int (zI 0), .ref (ad (18, 0))]) CF (x_X5_filter_1a l hl9 D cI cW cP (ad (4, 0)) (ad (5, 0)) (ad (6, 0)) np (ad (7, 0)) (ad (8, 0)) (ad (9, 0)) (ad (10, 0)) a b t bl sv (by first | omega | assumption) (by first | omega | assumption) A0 H.size) (cwV 5 hts gL_filter_X5_filter rfl rfl rfl (by decide +kernel) ⟨Nat.le_of_ble_eq_true rfl, Nat.le_of_ble_eq_true rfl⟩) (zw_preTV (va_recv hK hRc (ci := 4) (q0 := 0) rfl rfl) hX hA0 hA hS hRc (hK.sub (tys' := [(cI, .int), (cW, .object RX3), (cP, .object RX2)]) [0, 1, 2] rfl)) rfl rfl hl.1 rfl (lv_room (Nat.le_of_ble_eq_true rfl)) dL_filter_11 ⟨Nat.le_of_ble_eq_true rfl, Nat.le_of_ble_eq_true rfl⟩) hF hS hA hown [] ⟨0, 16, 19, 13⟩ [⟨0, 16, 23, 15⟩, ⟨0, 16, 27, 17⟩] (htab.trans rfl) (fun _ h => absurd h List.not_mem_nil) rfl (by decide) (hts (.classLink RL 13 "java/lang/IndexOutOfBoundsException") (by decide +kernel)) (z_cast (hts (.initialized "java/lang/IndexOutOfBoundsException") (by decide +kernel))) (fun q H locs hF hS => ?_)
  refine lv_astore (lv' := [(7, .ref q), (0, .ref (ad (4, 0))), (1, .int (zI a)), (2, .int (zI b)), (3, .int (zI t)), (4, .int (zI bl)), (5, .int (zI sv)), (6, .ref (ad (18, 0)))]) hx hb dL_filter_19 hl (by decide) rfl (fun ls hl => ?_)
  have hl := lv_sub hl [1, 2, 3, 4, 5, 6, 7, 0] rfl
  have hl : lv_has ls 8 [(0, .ref (ad (4, 0))), (1, .int (zI a)), (2, .int (zI b)), (3, .int (zI t)), (4, .int (zI bl)), (5, .int (zI sv)), (6, .ref (ad (18, 0))), (7, .ref q)] := hl
  refine z_iconst hx hb dL_filter_21 ?_
  refine W.widen (k := 2) (n := 70) (Nat.le_of_ble_eq_true rfl) (Nat.le_of_ble_eq_true rfl) ?_
  exact zw_iret hx hb hr hlocks (1, o, c, ar) rfl (zWp_err (by decide)) hF hI hKA hS dL_filter_22

set_option maxHeartbeats 4000000 in
set_option maxRecDepth 100000 in
theorem w_filter_e1b (l : Launch) (hl9 : l.stackTraces = false) (D : va_G) (cI cW cP cJ : ClassId) (ad : zk → Nat) (ar : zk → Int → Int) (c : Int → Int) (np : Int) (pp pn : Int → Int) (pg : Int → Option Nat) (o : Nat → Int64) (a : Int) (b : Int) (t : Int) (bl : Int) (sv : Int) (hYI : zYI ad ar c np pp pn pg) (ha_bl : -2147483648 ≤ bl ∧ bl ≤ 2147483647) (hsv : 0 ≤ sv ∧ sv ≤ 1) (ha_b : -2147483648 ≤ b ∧ b ≤ 2147483647) (ha_t : -2147483648 ≤ t ∧ t ≤ 2147483647) (hra : 0 ≤ a ∧ a < 4) (hbb : ¬ (0 ≤ b ∧ b < 4)) : zWC l yL_filter wsL_filter D [(cI, .int), (cW, .object RX3), (cP, .object RX2), (cJ, .long)] (zYK np) (zY cI cW cP cJ ad ar c np pp pn pg o) [.ref (ad (4, 0)), .int (zI a), .int (zI b), .int (zI t), .int (zI bl), .int (zI sv), .ref (ad (18, 0))] (S := Int × (Nat → Int64) × (Int → Int) × (zk → Int → Int)) (zWp 1 (c a + c b - 1) True c ar t (c a + c b - 1) (zLn (zG ar c) c a b)) (fun u => some (.int (zI u.1))) (fun _ => zYK np) (fun u => zY cI cW cP cJ ad u.2.2.2 u.2.2.1 np pp pn pg u.2.1) := by
  obtain ⟨hnp, hcr, hgr, hpl⟩ := hYI
  have hca_ := hcr a hra
  refine z_startW (cc := cL_filter) (maxL := 8) (ret := some .int) (hh := [(0, 16, 19, 13), (0, 16, 23, 15), (0, 16, 27, 17)]) (own := RL) (by decide) rfl rfl (Nat.le_of_ble_eq_true rfl) [(0, .ref (ad (4, 0))), (1, .int (zI a)), (2, .int (zI b)), (3, .int (zI t)), (4, .int (zI bl)), (5, .int (zI sv)), (6, .ref (ad (18, 0)))] rfl ?_
  intro pp_ ee s mm below meth cc A0 H ls hX hA0 htab hx hb hr hml hts hown hlocks hK hF hI hKA hS hA hl
  have CF : CallFix pp_ mm cc cL_filter 8 s ([.ref (ad (4, 0)), .int (zI a), .int (zI b), .int (zI t), .int (zI bl), .int (zI sv), .ref (ad (18, 0))] : List Value).toArray wsL_filter RL := ⟨hx, hb, hml, hown, hts⟩
  refine lv_aload hx hb dL_filter_0 (lv_at hl 6 rfl) ?_
  refine z_iconst hx hb dL_filter_2 ?_
  refine lv_aload_n hx hb dL_filter_3 rfl (lv_at hl 0 rfl) ?_
  refine lv_iload_n hx hb dL_filter_4 rfl (lv_at hl 1 rfl) ?_
  refine lv_iload_n hx hb dL_filter_5 rfl (lv_at hl 2 rfl) ?_
  refine lv_iload_n hx hb dL_filter_6 rfl (lv_at hl 3 rfl) ?_
  refine lv_iload hx hb dL_filter_7 (lv_at hl 4 rfl) ?_
  refine lv_iload hx hb dL_filter_9 (lv_at hl 5 rfl) ?_
  have hRc := zf_sub hF [(4, 0), (5, 0)] (List.forall_mem_cons.mpr ⟨zKf 4 rfl rfl, (List.forall_mem_cons.mpr ⟨zKf 5 rfl rfl, (fun _ h => absurd h List.not_mem_nil)⟩)⟩) (wc := [((ad (4, 0)), .inr (4, [.ref (ad (5, 0)), .ref (ad (6, 0)), .int (zI np), .ref (ad (7, 0)), .ref (ad (8, 0)), .ref (ad (9, 0)), .ref (ad (10, 0))])), ((ad (5, 0)), .inl (cW, 4, .inr (.inr (.inr (.inr (fun k : Nat => (zRg ad) (k : Int)))))))]) rfl
  refine zw_catch (E := "java/lang/IndexOutOfBoundsException") (name := "java/lang/IndexOutOfBoundsException") (own := RL) (vx_runV (As := [.int (zI a), .int (zI b), .int (zI t), .int (zI bl), .int (zI sv)]) (rest := [.int (zI 0), .ref (ad (18, 0))]) CF (x_X5_filter_1b l hl9 D cI cW cP (ad (4, 0)) (ad (5, 0)) (ad (6, 0)) np (ad (7, 0)) (ad (8, 0)) (ad (9, 0)) (ad (10, 0)) (zRg ad) a b t bl sv (ad (0, a)) (by first | omega | assumption) (by exact zRg_at hra) (by first | omega | assumption) (by first | omega | assumption) A0 H.size) (cwV 5 hts gL_filter_X5_filter rfl rfl rfl (by decide +kernel) ⟨Nat.le_of_ble_eq_true rfl, Nat.le_of_ble_eq_true rfl⟩) (zw_preTV (va_recv hK hRc (ci := 4) (q0 := 0) rfl rfl) hX hA0 hA hS hRc (hK.sub (tys' := [(cI, .int), (cW, .object RX3), (cP, .object RX2)]) [0, 1, 2] rfl)) rfl rfl hl.1 rfl (lv_room (Nat.le_of_ble_eq_true rfl)) dL_filter_11 ⟨Nat.le_of_ble_eq_true rfl, Nat.le_of_ble_eq_true rfl⟩) hF hS hA hown [] ⟨0, 16, 19, 13⟩ [⟨0, 16, 23, 15⟩, ⟨0, 16, 27, 17⟩] (htab.trans rfl) (fun _ h => absurd h List.not_mem_nil) rfl (by decide) (hts (.classLink RL 13 "java/lang/IndexOutOfBoundsException") (by decide +kernel)) (z_cast (hts (.initialized "java/lang/IndexOutOfBoundsException") (by decide +kernel))) (fun q H locs hF hS => ?_)
  refine lv_astore (lv' := [(7, .ref q), (0, .ref (ad (4, 0))), (1, .int (zI a)), (2, .int (zI b)), (3, .int (zI t)), (4, .int (zI bl)), (5, .int (zI sv)), (6, .ref (ad (18, 0)))]) hx hb dL_filter_19 hl (by decide) rfl (fun ls hl => ?_)
  have hl := lv_sub hl [1, 2, 3, 4, 5, 6, 7, 0] rfl
  have hl : lv_has ls 8 [(0, .ref (ad (4, 0))), (1, .int (zI a)), (2, .int (zI b)), (3, .int (zI t)), (4, .int (zI bl)), (5, .int (zI sv)), (6, .ref (ad (18, 0))), (7, .ref q)] := hl
  refine z_iconst hx hb dL_filter_21 ?_
  refine W.widen (k := 2) (n := 70) (Nat.le_of_ble_eq_true rfl) (Nat.le_of_ble_eq_true rfl) ?_
  exact zw_iret hx hb hr hlocks (1, o, c, ar) rfl (zWp_err (by decide)) hF hI hKA hS dL_filter_22

set_option maxHeartbeats 4000000 in
set_option maxRecDepth 100000 in
theorem w_filter_e1c (l : Launch) (hl9 : l.stackTraces = false) (D : va_G) (cI cW cP cJ : ClassId) (ad : zk → Nat) (ar : zk → Int → Int) (c : Int → Int) (np : Int) (pp pn : Int → Int) (pg : Int → Option Nat) (o : Nat → Int64) (a : Int) (b : Int) (t : Int) (bl : Int) (sv : Int) (hYI : zYI ad ar c np pp pn pg) (ha_bl : -2147483648 ≤ bl ∧ bl ≤ 2147483647) (hsv : 0 ≤ sv ∧ sv ≤ 1) (ha_t : -2147483648 ≤ t ∧ t ≤ 2147483647) (hra : 0 ≤ a ∧ a < 4) (hrb : 0 ≤ b ∧ b < 4) (hbt : ¬ (0 ≤ t ∧ t < 4)) : zWC l yL_filter wsL_filter D [(cI, .int), (cW, .object RX3), (cP, .object RX2), (cJ, .long)] (zYK np) (zY cI cW cP cJ ad ar c np pp pn pg o) [.ref (ad (4, 0)), .int (zI a), .int (zI b), .int (zI t), .int (zI bl), .int (zI sv), .ref (ad (18, 0))] (S := Int × (Nat → Int64) × (Int → Int) × (zk → Int → Int)) (zWp 1 (c a + c b - 1) True c ar t (c a + c b - 1) (zLn (zG ar c) c a b)) (fun u => some (.int (zI u.1))) (fun _ => zYK np) (fun u => zY cI cW cP cJ ad u.2.2.2 u.2.2.1 np pp pn pg u.2.1) := by
  obtain ⟨hnp, hcr, hgr, hpl⟩ := hYI
  have hca_ := hcr a hra
  have hcb_ := hcr b hrb
  refine z_startW (cc := cL_filter) (maxL := 8) (ret := some .int) (hh := [(0, 16, 19, 13), (0, 16, 23, 15), (0, 16, 27, 17)]) (own := RL) (by decide) rfl rfl (Nat.le_of_ble_eq_true rfl) [(0, .ref (ad (4, 0))), (1, .int (zI a)), (2, .int (zI b)), (3, .int (zI t)), (4, .int (zI bl)), (5, .int (zI sv)), (6, .ref (ad (18, 0)))] rfl ?_
  intro pp_ ee s mm below meth cc A0 H ls hX hA0 htab hx hb hr hml hts hown hlocks hK hF hI hKA hS hA hl
  have CF : CallFix pp_ mm cc cL_filter 8 s ([.ref (ad (4, 0)), .int (zI a), .int (zI b), .int (zI t), .int (zI bl), .int (zI sv), .ref (ad (18, 0))] : List Value).toArray wsL_filter RL := ⟨hx, hb, hml, hown, hts⟩
  refine lv_aload hx hb dL_filter_0 (lv_at hl 6 rfl) ?_
  refine z_iconst hx hb dL_filter_2 ?_
  refine lv_aload_n hx hb dL_filter_3 rfl (lv_at hl 0 rfl) ?_
  refine lv_iload_n hx hb dL_filter_4 rfl (lv_at hl 1 rfl) ?_
  refine lv_iload_n hx hb dL_filter_5 rfl (lv_at hl 2 rfl) ?_
  refine lv_iload_n hx hb dL_filter_6 rfl (lv_at hl 3 rfl) ?_
  refine lv_iload hx hb dL_filter_7 (lv_at hl 4 rfl) ?_
  refine lv_iload hx hb dL_filter_9 (lv_at hl 5 rfl) ?_
  have hRc := zf_sub hF [(4, 0), (5, 0)] (List.forall_mem_cons.mpr ⟨zKf 4 rfl rfl, (List.forall_mem_cons.mpr ⟨zKf 5 rfl rfl, (fun _ h => absurd h List.not_mem_nil)⟩)⟩) (wc := [((ad (4, 0)), .inr (4, [.ref (ad (5, 0)), .ref (ad (6, 0)), .int (zI np), .ref (ad (7, 0)), .ref (ad (8, 0)), .ref (ad (9, 0)), .ref (ad (10, 0))])), ((ad (5, 0)), .inl (cW, 4, .inr (.inr (.inr (.inr (fun k : Nat => (zRg ad) (k : Int)))))))]) rfl
  refine zw_catch (E := "java/lang/IndexOutOfBoundsException") (name := "java/lang/IndexOutOfBoundsException") (own := RL) (vx_runV (As := [.int (zI a), .int (zI b), .int (zI t), .int (zI bl), .int (zI sv)]) (rest := [.int (zI 0), .ref (ad (18, 0))]) CF (x_X5_filter_1c l hl9 D cI cW cP (ad (4, 0)) (ad (5, 0)) (ad (6, 0)) np (ad (7, 0)) (ad (8, 0)) (ad (9, 0)) (ad (10, 0)) (zRg ad) a b t bl sv (ad (0, a)) (ad (0, b)) (by first | omega | assumption) (by exact zRg_at hra) (by first | omega | assumption) (by exact zRg_at hrb) (by first | omega | assumption) (by first | omega | assumption) A0 H.size) (cwV 5 hts gL_filter_X5_filter rfl rfl rfl (by decide +kernel) ⟨Nat.le_of_ble_eq_true rfl, Nat.le_of_ble_eq_true rfl⟩) (zw_preTV (va_recv hK hRc (ci := 4) (q0 := 0) rfl rfl) hX hA0 hA hS hRc (hK.sub (tys' := [(cI, .int), (cW, .object RX3), (cP, .object RX2)]) [0, 1, 2] rfl)) rfl rfl hl.1 rfl (lv_room (Nat.le_of_ble_eq_true rfl)) dL_filter_11 ⟨Nat.le_of_ble_eq_true rfl, Nat.le_of_ble_eq_true rfl⟩) hF hS hA hown [] ⟨0, 16, 19, 13⟩ [⟨0, 16, 23, 15⟩, ⟨0, 16, 27, 17⟩] (htab.trans rfl) (fun _ h => absurd h List.not_mem_nil) rfl (by decide) (hts (.classLink RL 13 "java/lang/IndexOutOfBoundsException") (by decide +kernel)) (z_cast (hts (.initialized "java/lang/IndexOutOfBoundsException") (by decide +kernel))) (fun q H locs hF hS => ?_)
  refine lv_astore (lv' := [(7, .ref q), (0, .ref (ad (4, 0))), (1, .int (zI a)), (2, .int (zI b)), (3, .int (zI t)), (4, .int (zI bl)), (5, .int (zI sv)), (6, .ref (ad (18, 0)))]) hx hb dL_filter_19 hl (by decide) rfl (fun ls hl => ?_)
  have hl := lv_sub hl [1, 2, 3, 4, 5, 6, 7, 0] rfl
  have hl : lv_has ls 8 [(0, .ref (ad (4, 0))), (1, .int (zI a)), (2, .int (zI b)), (3, .int (zI t)), (4, .int (zI bl)), (5, .int (zI sv)), (6, .ref (ad (18, 0))), (7, .ref q)] := hl
  refine z_iconst hx hb dL_filter_21 ?_
  refine W.widen (k := 2) (n := 70) (Nat.le_of_ble_eq_true rfl) (Nat.le_of_ble_eq_true rfl) ?_
  exact zw_iret hx hb hr hlocks (1, o, c, ar) rfl (zWp_err (by decide)) hF hI hKA hS dL_filter_22

set_option maxHeartbeats 4000000 in
set_option maxRecDepth 100000 in
theorem w_filter_e2p (l : Launch) (hl9 : l.stackTraces = false) (D : va_G) (cI cW cP cJ : ClassId) (ad : zk → Nat) (ar : zk → Int → Int) (c : Int → Int) (np : Int) (pp pn : Int → Int) (pg : Int → Option Nat) (o : Nat → Int64) (a : Int) (b : Int) (t : Int) (bl : Int) (sv : Int) (hYI : zYI ad ar c np pp pn pg) (ha_bl : -2147483648 ≤ bl ∧ bl ≤ 2147483647) (hsv : 0 ≤ sv ∧ sv ≤ 1) (hra : 0 ≤ a ∧ a < 4) (hrb : 0 ≤ b ∧ b < 4) (hrt : 0 ≤ t ∧ t < 4) (hbl : ¬ (1 ≤ bl ∧ bl ≤ 32)) : zWC l yL_filter wsL_filter D [(cI, .int), (cW, .object RX3), (cP, .object RX2), (cJ, .long)] (zYK np) (zY cI cW cP cJ ad ar c np pp pn pg o) [.ref (ad (4, 0)), .int (zI a), .int (zI b), .int (zI t), .int (zI bl), .int (zI sv), .ref (ad (18, 0))] (S := Int × (Nat → Int64) × (Int → Int) × (zk → Int → Int)) (zWp 2 (c a + c b - 1) True c ar t (c a + c b - 1) (zLn (zG ar c) c a b)) (fun u => some (.int (zI u.1))) (fun _ => zYK np) (fun u => zY cI cW cP cJ ad u.2.2.2 u.2.2.1 np pp pn pg u.2.1) := by
  obtain ⟨hnp, hcr, hgr, hpl⟩ := hYI
  have hca_ := hcr a hra
  have hcb_ := hcr b hrb
  have hct_ := hcr t hrt
  refine z_startW (cc := cL_filter) (maxL := 8) (ret := some .int) (hh := [(0, 16, 19, 13), (0, 16, 23, 15), (0, 16, 27, 17)]) (own := RL) (by decide) rfl rfl (Nat.le_of_ble_eq_true rfl) [(0, .ref (ad (4, 0))), (1, .int (zI a)), (2, .int (zI b)), (3, .int (zI t)), (4, .int (zI bl)), (5, .int (zI sv)), (6, .ref (ad (18, 0)))] rfl ?_
  intro pp_ ee s mm below meth cc A0 H ls hX hA0 htab hx hb hr hml hts hown hlocks hK hF hI hKA hS hA hl
  have CF : CallFix pp_ mm cc cL_filter 8 s ([.ref (ad (4, 0)), .int (zI a), .int (zI b), .int (zI t), .int (zI bl), .int (zI sv), .ref (ad (18, 0))] : List Value).toArray wsL_filter RL := ⟨hx, hb, hml, hown, hts⟩
  refine lv_aload hx hb dL_filter_0 (lv_at hl 6 rfl) ?_
  refine z_iconst hx hb dL_filter_2 ?_
  refine lv_aload_n hx hb dL_filter_3 rfl (lv_at hl 0 rfl) ?_
  refine lv_iload_n hx hb dL_filter_4 rfl (lv_at hl 1 rfl) ?_
  refine lv_iload_n hx hb dL_filter_5 rfl (lv_at hl 2 rfl) ?_
  refine lv_iload_n hx hb dL_filter_6 rfl (lv_at hl 3 rfl) ?_
  refine lv_iload hx hb dL_filter_7 (lv_at hl 4 rfl) ?_
  refine lv_iload hx hb dL_filter_9 (lv_at hl 5 rfl) ?_
  have hRc := zf_sub hF [(4, 0), (5, 0)] (List.forall_mem_cons.mpr ⟨zKf 4 rfl rfl, (List.forall_mem_cons.mpr ⟨zKf 5 rfl rfl, (fun _ h => absurd h List.not_mem_nil)⟩)⟩) (wc := [((ad (4, 0)), .inr (4, [.ref (ad (5, 0)), .ref (ad (6, 0)), .int (zI np), .ref (ad (7, 0)), .ref (ad (8, 0)), .ref (ad (9, 0)), .ref (ad (10, 0))])), ((ad (5, 0)), .inl (cW, 4, .inr (.inr (.inr (.inr (fun k : Nat => (zRg ad) (k : Int)))))))]) rfl
  refine zw_catch (E := "java/lang/IllegalArgumentException") (name := "java/lang/IllegalArgumentException") (own := RL) (vx_runV (As := [.int (zI a), .int (zI b), .int (zI t), .int (zI bl), .int (zI sv)]) (rest := [.int (zI 0), .ref (ad (18, 0))]) CF (x_X5_filter_2p l hl9 D cI cW cP (ad (4, 0)) (ad (5, 0)) (ad (6, 0)) np (ad (7, 0)) (ad (8, 0)) (ad (9, 0)) (ad (10, 0)) (zRg ad) a b t bl sv (ad (0, a)) (ad (0, b)) (ad (0, t)) (by first | omega | assumption) (by exact zRg_at hra) (by first | omega | assumption) (by exact zRg_at hrb) (by first | omega | assumption) (by exact zRg_at hrt) (by first | omega | assumption) (by first | omega | assumption) A0 H.size) (cwV 5 hts gL_filter_X5_filter rfl rfl rfl (by decide +kernel) ⟨Nat.le_of_ble_eq_true rfl, Nat.le_of_ble_eq_true rfl⟩) (zw_preTV (va_recv hK hRc (ci := 4) (q0 := 0) rfl rfl) hX hA0 hA hS hRc (hK.sub (tys' := [(cI, .int), (cW, .object RX3), (cP, .object RX2)]) [0, 1, 2] rfl)) rfl rfl hl.1 rfl (lv_room (Nat.le_of_ble_eq_true rfl)) dL_filter_11 ⟨Nat.le_of_ble_eq_true rfl, Nat.le_of_ble_eq_true rfl⟩) hF hS hA hown [⟨0, 16, 19, 13⟩] ⟨0, 16, 23, 15⟩ [⟨0, 16, 27, 17⟩] (htab.trans rfl) (List.forall_mem_cons.mpr ⟨Or.inr ⟨by decide, _, hts (.classLink RL 13 "java/lang/IndexOutOfBoundsException") (by decide +kernel), hX.2.2.2.1⟩, (fun _ h => absurd h List.not_mem_nil)⟩) rfl (by decide) (hts (.classLink RL 15 "java/lang/IllegalArgumentException") (by decide +kernel)) (z_cast (hts (.initialized "java/lang/IllegalArgumentException") (by decide +kernel))) (fun q H locs hF hS => ?_)
  refine lv_astore (lv' := [(7, .ref q), (0, .ref (ad (4, 0))), (1, .int (zI a)), (2, .int (zI b)), (3, .int (zI t)), (4, .int (zI bl)), (5, .int (zI sv)), (6, .ref (ad (18, 0)))]) hx hb dL_filter_23 hl (by decide) rfl (fun ls hl => ?_)
  have hl := lv_sub hl [1, 2, 3, 4, 5, 6, 7, 0] rfl
  have hl : lv_has ls 8 [(0, .ref (ad (4, 0))), (1, .int (zI a)), (2, .int (zI b)), (3, .int (zI t)), (4, .int (zI bl)), (5, .int (zI sv)), (6, .ref (ad (18, 0))), (7, .ref q)] := hl
  refine z_iconst hx hb dL_filter_25 ?_
  refine W.widen (k := 2) (n := 70) (Nat.le_of_ble_eq_true rfl) (Nat.le_of_ble_eq_true rfl) ?_
  exact zw_iret hx hb hr hlocks (2, o, c, ar) rfl (zWp_err (by decide)) hF hI hKA hS dL_filter_26

set_option maxHeartbeats 4000000 in
set_option maxRecDepth 100000 in
theorem w_filter_e2a (l : Launch) (hl9 : l.stackTraces = false) (D : va_G) (cI cW cP cJ : ClassId) (ad : zk → Nat) (ar : zk → Int → Int) (c : Int → Int) (np : Int) (pp pn : Int → Int) (pg : Int → Option Nat) (o : Nat → Int64) (a : Int) (b : Int) (t : Int) (bl : Int) (sv : Int) (hYI : zYI ad ar c np pp pn pg) (ha_bl : -2147483648 ≤ bl ∧ bl ≤ 2147483647) (hsv : 0 ≤ sv ∧ sv ≤ 1) (hra : 0 ≤ a ∧ a < 4) (hrb : 0 ≤ b ∧ b < 4) (hrt : 0 ≤ t ∧ t < 4) (hbl : 1 ≤ bl ∧ bl ≤ 32) (hwa : ¬ (∀ k, 0 ≤ k → k < c a → -99 ≤ ar (1, a) k ∧ ar (1, a) k ≤ 99)) : zWC l yL_filter wsL_filter D [(cI, .int), (cW, .object RX3), (cP, .object RX2), (cJ, .long)] (zYK np) (zY cI cW cP cJ ad ar c np pp pn pg o) [.ref (ad (4, 0)), .int (zI a), .int (zI b), .int (zI t), .int (zI bl), .int (zI sv), .ref (ad (18, 0))] (S := Int × (Nat → Int64) × (Int → Int) × (zk → Int → Int)) (zWp 2 (c a + c b - 1) True c ar t (c a + c b - 1) (zLn (zG ar c) c a b)) (fun u => some (.int (zI u.1))) (fun _ => zYK np) (fun u => zY cI cW cP cJ ad u.2.2.2 u.2.2.1 np pp pn pg u.2.1) := by
  obtain ⟨hnp, hcr, hgr, hpl⟩ := hYI
  have hca_ := hcr a hra
  have hcb_ := hcr b hrb
  have hct_ := hcr t hrt
  refine z_startW (cc := cL_filter) (maxL := 8) (ret := some .int) (hh := [(0, 16, 19, 13), (0, 16, 23, 15), (0, 16, 27, 17)]) (own := RL) (by decide) rfl rfl (Nat.le_of_ble_eq_true rfl) [(0, .ref (ad (4, 0))), (1, .int (zI a)), (2, .int (zI b)), (3, .int (zI t)), (4, .int (zI bl)), (5, .int (zI sv)), (6, .ref (ad (18, 0)))] rfl ?_
  intro pp_ ee s mm below meth cc A0 H ls hX hA0 htab hx hb hr hml hts hown hlocks hK hF hI hKA hS hA hl
  have CF : CallFix pp_ mm cc cL_filter 8 s ([.ref (ad (4, 0)), .int (zI a), .int (zI b), .int (zI t), .int (zI bl), .int (zI sv), .ref (ad (18, 0))] : List Value).toArray wsL_filter RL := ⟨hx, hb, hml, hown, hts⟩
  refine lv_aload hx hb dL_filter_0 (lv_at hl 6 rfl) ?_
  refine z_iconst hx hb dL_filter_2 ?_
  refine lv_aload_n hx hb dL_filter_3 rfl (lv_at hl 0 rfl) ?_
  refine lv_iload_n hx hb dL_filter_4 rfl (lv_at hl 1 rfl) ?_
  refine lv_iload_n hx hb dL_filter_5 rfl (lv_at hl 2 rfl) ?_
  refine lv_iload_n hx hb dL_filter_6 rfl (lv_at hl 3 rfl) ?_
  refine lv_iload hx hb dL_filter_7 (lv_at hl 4 rfl) ?_
  refine lv_iload hx hb dL_filter_9 (lv_at hl 5 rfl) ?_
  have hRc := zf_sub hF [(4, 0), (5, 0), (0, a), (1, a)] (List.forall_mem_cons.mpr ⟨zKf 4 rfl rfl, (List.forall_mem_cons.mpr ⟨zKf 5 rfl rfl, (List.forall_mem_cons.mpr ⟨zK0 hra, (List.forall_mem_cons.mpr ⟨zK1 hra, (fun _ h => absurd h List.not_mem_nil)⟩)⟩)⟩)⟩) (wc := [((ad (4, 0)), .inr (4, [.ref (ad (5, 0)), .ref (ad (6, 0)), .int (zI np), .ref (ad (7, 0)), .ref (ad (8, 0)), .ref (ad (9, 0)), .ref (ad (10, 0))])), ((ad (5, 0)), .inl (cW, 4, .inr (.inr (.inr (.inr (fun k : Nat => (zRg ad) (k : Int))))))), ((ad (0, a)), .inr (2, [.ref (ad (1, a)), .int (zI (c a))])), ((ad (1, a)), .inl (cI, 64, .inl (zA (ar (1, a)))))]) rfl
  refine zw_catch (E := "java/lang/IllegalArgumentException") (name := "java/lang/IllegalArgumentException") (own := RL) (vx_runV (As := [.int (zI a), .int (zI b), .int (zI t), .int (zI bl), .int (zI sv)]) (rest := [.int (zI 0), .ref (ad (18, 0))]) CF (x_X5_filter_2a l hl9 D cI cW cP (ad (4, 0)) (ad (5, 0)) (ad (6, 0)) np (ad (7, 0)) (ad (8, 0)) (ad (9, 0)) (ad (10, 0)) (zRg ad) a b t bl sv (ad (0, a)) (ad (1, a)) (c a) (ar (1, a)) (ad (0, b)) (ad (0, t)) (by first | omega | assumption) (by exact zRg_at hra) (by first | omega | assumption) (by exact zRg_at hrb) (by first | omega | assumption) (by exact zRg_at hrt) (by first | omega | assumption) (by first | omega | assumption) (by exact hgr a hra) (by first | omega | assumption) A0 H.size) (cwV 5 hts gL_filter_X5_filter rfl rfl rfl (by decide +kernel) ⟨Nat.le_of_ble_eq_true rfl, Nat.le_of_ble_eq_true rfl⟩) (zw_preTV (va_recv hK hRc (ci := 4) (q0 := 0) rfl rfl) hX hA0 hA hS hRc (hK.sub (tys' := [(cI, .int), (cW, .object RX3), (cP, .object RX2)]) [0, 1, 2] rfl)) rfl rfl hl.1 rfl (lv_room (Nat.le_of_ble_eq_true rfl)) dL_filter_11 ⟨Nat.le_of_ble_eq_true rfl, Nat.le_of_ble_eq_true rfl⟩) hF hS hA hown [⟨0, 16, 19, 13⟩] ⟨0, 16, 23, 15⟩ [⟨0, 16, 27, 17⟩] (htab.trans rfl) (List.forall_mem_cons.mpr ⟨Or.inr ⟨by decide, _, hts (.classLink RL 13 "java/lang/IndexOutOfBoundsException") (by decide +kernel), hX.2.2.2.1⟩, (fun _ h => absurd h List.not_mem_nil)⟩) rfl (by decide) (hts (.classLink RL 15 "java/lang/IllegalArgumentException") (by decide +kernel)) (z_cast (hts (.initialized "java/lang/IllegalArgumentException") (by decide +kernel))) (fun q H locs hF hS => ?_)
  refine lv_astore (lv' := [(7, .ref q), (0, .ref (ad (4, 0))), (1, .int (zI a)), (2, .int (zI b)), (3, .int (zI t)), (4, .int (zI bl)), (5, .int (zI sv)), (6, .ref (ad (18, 0)))]) hx hb dL_filter_23 hl (by decide) rfl (fun ls hl => ?_)
  have hl := lv_sub hl [1, 2, 3, 4, 5, 6, 7, 0] rfl
  have hl : lv_has ls 8 [(0, .ref (ad (4, 0))), (1, .int (zI a)), (2, .int (zI b)), (3, .int (zI t)), (4, .int (zI bl)), (5, .int (zI sv)), (6, .ref (ad (18, 0))), (7, .ref q)] := hl
  refine z_iconst hx hb dL_filter_25 ?_
  refine W.widen (k := 2) (n := 70) (Nat.le_of_ble_eq_true rfl) (Nat.le_of_ble_eq_true rfl) ?_
  exact zw_iret hx hb hr hlocks (2, o, c, ar) rfl (zWp_err (by decide)) hF hI hKA hS dL_filter_26

set_option maxHeartbeats 4000000 in
set_option maxRecDepth 100000 in
theorem w_filter_e2b (l : Launch) (hl9 : l.stackTraces = false) (D : va_G) (cI cW cP cJ : ClassId) (ad : zk → Nat) (ar : zk → Int → Int) (c : Int → Int) (np : Int) (pp pn : Int → Int) (pg : Int → Option Nat) (o : Nat → Int64) (a : Int) (b : Int) (t : Int) (bl : Int) (sv : Int) (hYI : zYI ad ar c np pp pn pg) (ha_bl : -2147483648 ≤ bl ∧ bl ≤ 2147483647) (hsv : 0 ≤ sv ∧ sv ≤ 1) (hra : 0 ≤ a ∧ a < 4) (hrb : 0 ≤ b ∧ b < 4) (hrt : 0 ≤ t ∧ t < 4) (hbl : 1 ≤ bl ∧ bl ≤ 32) (hwa : ∀ k, 0 ≤ k → k < c a → -99 ≤ ar (1, a) k ∧ ar (1, a) k ≤ 99) (hwb : ¬ (∀ k, 0 ≤ k → k < c b → -99 ≤ ar (1, b) k ∧ ar (1, b) k ≤ 99)) : zWC l yL_filter wsL_filter D [(cI, .int), (cW, .object RX3), (cP, .object RX2), (cJ, .long)] (zYK np) (zY cI cW cP cJ ad ar c np pp pn pg o) [.ref (ad (4, 0)), .int (zI a), .int (zI b), .int (zI t), .int (zI bl), .int (zI sv), .ref (ad (18, 0))] (S := Int × (Nat → Int64) × (Int → Int) × (zk → Int → Int)) (zWp 2 (c a + c b - 1) True c ar t (c a + c b - 1) (zLn (zG ar c) c a b)) (fun u => some (.int (zI u.1))) (fun _ => zYK np) (fun u => zY cI cW cP cJ ad u.2.2.2 u.2.2.1 np pp pn pg u.2.1) := by
  obtain ⟨hnp, hcr, hgr, hpl⟩ := hYI
  have hca_ := hcr a hra
  have hcb_ := hcr b hrb
  have hct_ := hcr t hrt
  refine z_startW (cc := cL_filter) (maxL := 8) (ret := some .int) (hh := [(0, 16, 19, 13), (0, 16, 23, 15), (0, 16, 27, 17)]) (own := RL) (by decide) rfl rfl (Nat.le_of_ble_eq_true rfl) [(0, .ref (ad (4, 0))), (1, .int (zI a)), (2, .int (zI b)), (3, .int (zI t)), (4, .int (zI bl)), (5, .int (zI sv)), (6, .ref (ad (18, 0)))] rfl ?_
  intro pp_ ee s mm below meth cc A0 H ls hX hA0 htab hx hb hr hml hts hown hlocks hK hF hI hKA hS hA hl
  have CF : CallFix pp_ mm cc cL_filter 8 s ([.ref (ad (4, 0)), .int (zI a), .int (zI b), .int (zI t), .int (zI bl), .int (zI sv), .ref (ad (18, 0))] : List Value).toArray wsL_filter RL := ⟨hx, hb, hml, hown, hts⟩
  refine lv_aload hx hb dL_filter_0 (lv_at hl 6 rfl) ?_
  refine z_iconst hx hb dL_filter_2 ?_
  refine lv_aload_n hx hb dL_filter_3 rfl (lv_at hl 0 rfl) ?_
  refine lv_iload_n hx hb dL_filter_4 rfl (lv_at hl 1 rfl) ?_
  refine lv_iload_n hx hb dL_filter_5 rfl (lv_at hl 2 rfl) ?_
  refine lv_iload_n hx hb dL_filter_6 rfl (lv_at hl 3 rfl) ?_
  refine lv_iload hx hb dL_filter_7 (lv_at hl 4 rfl) ?_
  refine lv_iload hx hb dL_filter_9 (lv_at hl 5 rfl) ?_
  have hRc := zf_sub hF [(4, 0), (5, 0), (0, a), (1, a), (0, b), (1, b)] (List.forall_mem_cons.mpr ⟨zKf 4 rfl rfl, (List.forall_mem_cons.mpr ⟨zKf 5 rfl rfl, (List.forall_mem_cons.mpr ⟨zK0 hra, (List.forall_mem_cons.mpr ⟨zK1 hra, (List.forall_mem_cons.mpr ⟨zK0 hrb, (List.forall_mem_cons.mpr ⟨zK1 hrb, (fun _ h => absurd h List.not_mem_nil)⟩)⟩)⟩)⟩)⟩)⟩) (wc := [((ad (4, 0)), .inr (4, [.ref (ad (5, 0)), .ref (ad (6, 0)), .int (zI np), .ref (ad (7, 0)), .ref (ad (8, 0)), .ref (ad (9, 0)), .ref (ad (10, 0))])), ((ad (5, 0)), .inl (cW, 4, .inr (.inr (.inr (.inr (fun k : Nat => (zRg ad) (k : Int))))))), ((ad (0, a)), .inr (2, [.ref (ad (1, a)), .int (zI (c a))])), ((ad (1, a)), .inl (cI, 64, .inl (zA (ar (1, a))))), ((ad (0, b)), .inr (2, [.ref (ad (1, b)), .int (zI (c b))])), ((ad (1, b)), .inl (cI, 64, .inl (zA (ar (1, b)))))]) rfl
  refine zw_catch (E := "java/lang/IllegalArgumentException") (name := "java/lang/IllegalArgumentException") (own := RL) (vx_runV (As := [.int (zI a), .int (zI b), .int (zI t), .int (zI bl), .int (zI sv)]) (rest := [.int (zI 0), .ref (ad (18, 0))]) CF (x_X5_filter_2b l hl9 D cI cW cP (ad (4, 0)) (ad (5, 0)) (ad (6, 0)) np (ad (7, 0)) (ad (8, 0)) (ad (9, 0)) (ad (10, 0)) (zRg ad) a b t bl sv (ad (0, a)) (ad (1, a)) (c a) (ar (1, a)) (ad (0, b)) (ad (1, b)) (c b) (ar (1, b)) (ad (0, t)) (by first | omega | assumption) (by exact zRg_at hra) (by first | omega | assumption) (by exact zRg_at hrb) (by first | omega | assumption) (by exact zRg_at hrt) (by first | omega | assumption) (by first | omega | assumption) (by first | omega | assumption) (by exact hgr a hra) (by exact hgr b hrb) (by first | omega | assumption) (by first | omega | assumption) A0 H.size) (cwV 5 hts gL_filter_X5_filter rfl rfl rfl (by decide +kernel) ⟨Nat.le_of_ble_eq_true rfl, Nat.le_of_ble_eq_true rfl⟩) (zw_preTV (va_recv hK hRc (ci := 4) (q0 := 0) rfl rfl) hX hA0 hA hS hRc (hK.sub (tys' := [(cI, .int), (cW, .object RX3), (cP, .object RX2)]) [0, 1, 2] rfl)) rfl rfl hl.1 rfl (lv_room (Nat.le_of_ble_eq_true rfl)) dL_filter_11 ⟨Nat.le_of_ble_eq_true rfl, Nat.le_of_ble_eq_true rfl⟩) hF hS hA hown [⟨0, 16, 19, 13⟩] ⟨0, 16, 23, 15⟩ [⟨0, 16, 27, 17⟩] (htab.trans rfl) (List.forall_mem_cons.mpr ⟨Or.inr ⟨by decide, _, hts (.classLink RL 13 "java/lang/IndexOutOfBoundsException") (by decide +kernel), hX.2.2.2.1⟩, (fun _ h => absurd h List.not_mem_nil)⟩) rfl (by decide) (hts (.classLink RL 15 "java/lang/IllegalArgumentException") (by decide +kernel)) (z_cast (hts (.initialized "java/lang/IllegalArgumentException") (by decide +kernel))) (fun q H locs hF hS => ?_)
  refine lv_astore (lv' := [(7, .ref q), (0, .ref (ad (4, 0))), (1, .int (zI a)), (2, .int (zI b)), (3, .int (zI t)), (4, .int (zI bl)), (5, .int (zI sv)), (6, .ref (ad (18, 0)))]) hx hb dL_filter_23 hl (by decide) rfl (fun ls hl => ?_)
  have hl := lv_sub hl [1, 2, 3, 4, 5, 6, 7, 0] rfl
  have hl : lv_has ls 8 [(0, .ref (ad (4, 0))), (1, .int (zI a)), (2, .int (zI b)), (3, .int (zI t)), (4, .int (zI bl)), (5, .int (zI sv)), (6, .ref (ad (18, 0))), (7, .ref q)] := hl
  refine z_iconst hx hb dL_filter_25 ?_
  refine W.widen (k := 2) (n := 70) (Nat.le_of_ble_eq_true rfl) (Nat.le_of_ble_eq_true rfl) ?_
  exact zw_iret hx hb hr hlocks (2, o, c, ar) rfl (zWp_err (by decide)) hF hI hKA hS dL_filter_26

set_option maxHeartbeats 4000000 in
set_option maxRecDepth 100000 in
theorem w_filter_e3a (l : Launch) (hl9 : l.stackTraces = false) (D : va_G) (cI cW cP cJ : ClassId) (ad : zk → Nat) (ar : zk → Int → Int) (c : Int → Int) (np : Int) (pp pn : Int → Int) (pg : Int → Option Nat) (o : Nat → Int64) (a : Int) (b : Int) (t : Int) (bl : Int) (sv : Int) (hYI : zYI ad ar c np pp pn pg) (ha_bl : -2147483648 ≤ bl ∧ bl ≤ 2147483647) (hsv : 0 ≤ sv ∧ sv ≤ 1) (hra : 0 ≤ a ∧ a < 4) (hrb : 0 ≤ b ∧ b < 4) (hrt : 0 ≤ t ∧ t < 4) (hbl : 1 ≤ bl ∧ bl ≤ 32) (hwa : ∀ k, 0 ≤ k → k < c a → -99 ≤ ar (1, a) k ∧ ar (1, a) k ≤ 99) (hwb : ∀ k, 0 ≤ k → k < c b → -99 ≤ ar (1, b) k ∧ ar (1, b) k ≤ 99) (hz : c a = 0) : zWC l yL_filter wsL_filter D [(cI, .int), (cW, .object RX3), (cP, .object RX2), (cJ, .long)] (zYK np) (zY cI cW cP cJ ad ar c np pp pn pg o) [.ref (ad (4, 0)), .int (zI a), .int (zI b), .int (zI t), .int (zI bl), .int (zI sv), .ref (ad (18, 0))] (S := Int × (Nat → Int64) × (Int → Int) × (zk → Int → Int)) (zWp 3 (c a + c b - 1) True c ar t (c a + c b - 1) (zLn (zG ar c) c a b)) (fun u => some (.int (zI u.1))) (fun _ => zYK np) (fun u => zY cI cW cP cJ ad u.2.2.2 u.2.2.1 np pp pn pg u.2.1) := by
  obtain ⟨hnp, hcr, hgr, hpl⟩ := hYI
  have hca_ := hcr a hra
  have hcb_ := hcr b hrb
  have hct_ := hcr t hrt
  refine z_startW (cc := cL_filter) (maxL := 8) (ret := some .int) (hh := [(0, 16, 19, 13), (0, 16, 23, 15), (0, 16, 27, 17)]) (own := RL) (by decide) rfl rfl (Nat.le_of_ble_eq_true rfl) [(0, .ref (ad (4, 0))), (1, .int (zI a)), (2, .int (zI b)), (3, .int (zI t)), (4, .int (zI bl)), (5, .int (zI sv)), (6, .ref (ad (18, 0)))] rfl ?_
  intro pp_ ee s mm below meth cc A0 H ls hX hA0 htab hx hb hr hml hts hown hlocks hK hF hI hKA hS hA hl
  have CF : CallFix pp_ mm cc cL_filter 8 s ([.ref (ad (4, 0)), .int (zI a), .int (zI b), .int (zI t), .int (zI bl), .int (zI sv), .ref (ad (18, 0))] : List Value).toArray wsL_filter RL := ⟨hx, hb, hml, hown, hts⟩
  refine lv_aload hx hb dL_filter_0 (lv_at hl 6 rfl) ?_
  refine z_iconst hx hb dL_filter_2 ?_
  refine lv_aload_n hx hb dL_filter_3 rfl (lv_at hl 0 rfl) ?_
  refine lv_iload_n hx hb dL_filter_4 rfl (lv_at hl 1 rfl) ?_
  refine lv_iload_n hx hb dL_filter_5 rfl (lv_at hl 2 rfl) ?_
  refine lv_iload_n hx hb dL_filter_6 rfl (lv_at hl 3 rfl) ?_
  refine lv_iload hx hb dL_filter_7 (lv_at hl 4 rfl) ?_
  refine lv_iload hx hb dL_filter_9 (lv_at hl 5 rfl) ?_
  have hRc := zf_sub hF [(4, 0), (5, 0), (0, a), (1, a), (0, b), (1, b)] (List.forall_mem_cons.mpr ⟨zKf 4 rfl rfl, (List.forall_mem_cons.mpr ⟨zKf 5 rfl rfl, (List.forall_mem_cons.mpr ⟨zK0 hra, (List.forall_mem_cons.mpr ⟨zK1 hra, (List.forall_mem_cons.mpr ⟨zK0 hrb, (List.forall_mem_cons.mpr ⟨zK1 hrb, (fun _ h => absurd h List.not_mem_nil)⟩)⟩)⟩)⟩)⟩)⟩) (wc := [((ad (4, 0)), .inr (4, [.ref (ad (5, 0)), .ref (ad (6, 0)), .int (zI np), .ref (ad (7, 0)), .ref (ad (8, 0)), .ref (ad (9, 0)), .ref (ad (10, 0))])), ((ad (5, 0)), .inl (cW, 4, .inr (.inr (.inr (.inr (fun k : Nat => (zRg ad) (k : Int))))))), ((ad (0, a)), .inr (2, [.ref (ad (1, a)), .int (zI (c a))])), ((ad (1, a)), .inl (cI, 64, .inl (zA (ar (1, a))))), ((ad (0, b)), .inr (2, [.ref (ad (1, b)), .int (zI (c b))])), ((ad (1, b)), .inl (cI, 64, .inl (zA (ar (1, b)))))]) rfl
  refine zw_catch (E := "java/lang/IllegalStateException") (name := "java/lang/IllegalStateException") (own := RL) (vx_runV (As := [.int (zI a), .int (zI b), .int (zI t), .int (zI bl), .int (zI sv)]) (rest := [.int (zI 0), .ref (ad (18, 0))]) CF (x_X5_filter_3a l hl9 D cI cW cP (ad (4, 0)) (ad (5, 0)) (ad (6, 0)) np (ad (7, 0)) (ad (8, 0)) (ad (9, 0)) (ad (10, 0)) (zRg ad) a b t bl sv (ad (0, a)) (ad (1, a)) (c a) (ar (1, a)) (ad (0, b)) (ad (1, b)) (c b) (ar (1, b)) (ad (0, t)) (by first | omega | assumption) (by exact zRg_at hra) (by first | omega | assumption) (by exact zRg_at hrb) (by first | omega | assumption) (by exact zRg_at hrt) (by first | omega | assumption) (by first | omega | assumption) (by first | omega | assumption) (by first | omega | assumption) (by first | omega | assumption) (by first | omega | assumption) A0 H.size) (cwV 5 hts gL_filter_X5_filter rfl rfl rfl (by decide +kernel) ⟨Nat.le_of_ble_eq_true rfl, Nat.le_of_ble_eq_true rfl⟩) (zw_preTV (va_recv hK hRc (ci := 4) (q0 := 0) rfl rfl) hX hA0 hA hS hRc (hK.sub (tys' := [(cI, .int), (cW, .object RX3), (cP, .object RX2)]) [0, 1, 2] rfl)) rfl rfl hl.1 rfl (lv_room (Nat.le_of_ble_eq_true rfl)) dL_filter_11 ⟨Nat.le_of_ble_eq_true rfl, Nat.le_of_ble_eq_true rfl⟩) hF hS hA hown [⟨0, 16, 19, 13⟩, ⟨0, 16, 23, 15⟩] ⟨0, 16, 27, 17⟩ [] (htab.trans rfl) (List.forall_mem_cons.mpr ⟨Or.inr ⟨by decide, _, hts (.classLink RL 13 "java/lang/IndexOutOfBoundsException") (by decide +kernel), hX.2.2.2.2.1⟩, (List.forall_mem_cons.mpr ⟨Or.inr ⟨by decide, _, hts (.classLink RL 15 "java/lang/IllegalArgumentException") (by decide +kernel), hX.2.2.2.2.2.1⟩, (fun _ h => absurd h List.not_mem_nil)⟩)⟩) rfl (by decide) (hts (.classLink RL 17 "java/lang/IllegalStateException") (by decide +kernel)) (z_cast (hts (.initialized "java/lang/IllegalStateException") (by decide +kernel))) (fun q H locs hF hS => ?_)
  refine lv_astore (lv' := [(7, .ref q), (0, .ref (ad (4, 0))), (1, .int (zI a)), (2, .int (zI b)), (3, .int (zI t)), (4, .int (zI bl)), (5, .int (zI sv)), (6, .ref (ad (18, 0)))]) hx hb dL_filter_27 hl (by decide) rfl (fun ls hl => ?_)
  have hl := lv_sub hl [1, 2, 3, 4, 5, 6, 7, 0] rfl
  have hl : lv_has ls 8 [(0, .ref (ad (4, 0))), (1, .int (zI a)), (2, .int (zI b)), (3, .int (zI t)), (4, .int (zI bl)), (5, .int (zI sv)), (6, .ref (ad (18, 0))), (7, .ref q)] := hl
  refine z_iconst hx hb dL_filter_29 ?_
  refine W.widen (k := 2) (n := 70) (Nat.le_of_ble_eq_true rfl) (Nat.le_of_ble_eq_true rfl) ?_
  exact zw_iret hx hb hr hlocks (3, o, c, ar) rfl (zWp_err (by decide)) hF hI hKA hS dL_filter_30

set_option maxHeartbeats 4000000 in
set_option maxRecDepth 100000 in
theorem w_filter_e3b (l : Launch) (hl9 : l.stackTraces = false) (D : va_G) (cI cW cP cJ : ClassId) (ad : zk → Nat) (ar : zk → Int → Int) (c : Int → Int) (np : Int) (pp pn : Int → Int) (pg : Int → Option Nat) (o : Nat → Int64) (a : Int) (b : Int) (t : Int) (bl : Int) (sv : Int) (hYI : zYI ad ar c np pp pn pg) (ha_bl : -2147483648 ≤ bl ∧ bl ≤ 2147483647) (hsv : 0 ≤ sv ∧ sv ≤ 1) (hra : 0 ≤ a ∧ a < 4) (hrb : 0 ≤ b ∧ b < 4) (hrt : 0 ≤ t ∧ t < 4) (hbl : 1 ≤ bl ∧ bl ≤ 32) (hwa : ∀ k, 0 ≤ k → k < c a → -99 ≤ ar (1, a) k ∧ ar (1, a) k ≤ 99) (hwb : ∀ k, 0 ≤ k → k < c b → -99 ≤ ar (1, b) k ∧ ar (1, b) k ≤ 99) (hz : c a ≠ 0) (hz2 : c b = 0) : zWC l yL_filter wsL_filter D [(cI, .int), (cW, .object RX3), (cP, .object RX2), (cJ, .long)] (zYK np) (zY cI cW cP cJ ad ar c np pp pn pg o) [.ref (ad (4, 0)), .int (zI a), .int (zI b), .int (zI t), .int (zI bl), .int (zI sv), .ref (ad (18, 0))] (S := Int × (Nat → Int64) × (Int → Int) × (zk → Int → Int)) (zWp 3 (c a + c b - 1) True c ar t (c a + c b - 1) (zLn (zG ar c) c a b)) (fun u => some (.int (zI u.1))) (fun _ => zYK np) (fun u => zY cI cW cP cJ ad u.2.2.2 u.2.2.1 np pp pn pg u.2.1) := by
  obtain ⟨hnp, hcr, hgr, hpl⟩ := hYI
  have hca_ := hcr a hra
  have hcb_ := hcr b hrb
  have hct_ := hcr t hrt
  refine z_startW (cc := cL_filter) (maxL := 8) (ret := some .int) (hh := [(0, 16, 19, 13), (0, 16, 23, 15), (0, 16, 27, 17)]) (own := RL) (by decide) rfl rfl (Nat.le_of_ble_eq_true rfl) [(0, .ref (ad (4, 0))), (1, .int (zI a)), (2, .int (zI b)), (3, .int (zI t)), (4, .int (zI bl)), (5, .int (zI sv)), (6, .ref (ad (18, 0)))] rfl ?_
  intro pp_ ee s mm below meth cc A0 H ls hX hA0 htab hx hb hr hml hts hown hlocks hK hF hI hKA hS hA hl
  have CF : CallFix pp_ mm cc cL_filter 8 s ([.ref (ad (4, 0)), .int (zI a), .int (zI b), .int (zI t), .int (zI bl), .int (zI sv), .ref (ad (18, 0))] : List Value).toArray wsL_filter RL := ⟨hx, hb, hml, hown, hts⟩
  refine lv_aload hx hb dL_filter_0 (lv_at hl 6 rfl) ?_
  refine z_iconst hx hb dL_filter_2 ?_
  refine lv_aload_n hx hb dL_filter_3 rfl (lv_at hl 0 rfl) ?_
  refine lv_iload_n hx hb dL_filter_4 rfl (lv_at hl 1 rfl) ?_
  refine lv_iload_n hx hb dL_filter_5 rfl (lv_at hl 2 rfl) ?_
  refine lv_iload_n hx hb dL_filter_6 rfl (lv_at hl 3 rfl) ?_
  refine lv_iload hx hb dL_filter_7 (lv_at hl 4 rfl) ?_
  refine lv_iload hx hb dL_filter_9 (lv_at hl 5 rfl) ?_
  have hRc := zf_sub hF [(4, 0), (5, 0), (0, a), (1, a), (0, b), (1, b)] (List.forall_mem_cons.mpr ⟨zKf 4 rfl rfl, (List.forall_mem_cons.mpr ⟨zKf 5 rfl rfl, (List.forall_mem_cons.mpr ⟨zK0 hra, (List.forall_mem_cons.mpr ⟨zK1 hra, (List.forall_mem_cons.mpr ⟨zK0 hrb, (List.forall_mem_cons.mpr ⟨zK1 hrb, (fun _ h => absurd h List.not_mem_nil)⟩)⟩)⟩)⟩)⟩)⟩) (wc := [((ad (4, 0)), .inr (4, [.ref (ad (5, 0)), .ref (ad (6, 0)), .int (zI np), .ref (ad (7, 0)), .ref (ad (8, 0)), .ref (ad (9, 0)), .ref (ad (10, 0))])), ((ad (5, 0)), .inl (cW, 4, .inr (.inr (.inr (.inr (fun k : Nat => (zRg ad) (k : Int))))))), ((ad (0, a)), .inr (2, [.ref (ad (1, a)), .int (zI (c a))])), ((ad (1, a)), .inl (cI, 64, .inl (zA (ar (1, a))))), ((ad (0, b)), .inr (2, [.ref (ad (1, b)), .int (zI (c b))])), ((ad (1, b)), .inl (cI, 64, .inl (zA (ar (1, b)))))]) rfl
  refine zw_catch (E := "java/lang/IllegalStateException") (name := "java/lang/IllegalStateException") (own := RL) (vx_runV (As := [.int (zI a), .int (zI b), .int (zI t), .int (zI bl), .int (zI sv)]) (rest := [.int (zI 0), .ref (ad (18, 0))]) CF (x_X5_filter_3b l hl9 D cI cW cP (ad (4, 0)) (ad (5, 0)) (ad (6, 0)) np (ad (7, 0)) (ad (8, 0)) (ad (9, 0)) (ad (10, 0)) (zRg ad) a b t bl sv (ad (0, a)) (ad (1, a)) (c a) (ar (1, a)) (ad (0, b)) (ad (1, b)) (c b) (ar (1, b)) (ad (0, t)) (by first | omega | assumption) (by exact zRg_at hra) (by first | omega | assumption) (by exact zRg_at hrb) (by first | omega | assumption) (by exact zRg_at hrt) (by first | omega | assumption) (by first | omega | assumption) (by first | omega | assumption) (by first | omega | assumption) (by first | omega | assumption) (by first | omega | assumption) (by first | omega | assumption) A0 H.size) (cwV 5 hts gL_filter_X5_filter rfl rfl rfl (by decide +kernel) ⟨Nat.le_of_ble_eq_true rfl, Nat.le_of_ble_eq_true rfl⟩) (zw_preTV (va_recv hK hRc (ci := 4) (q0 := 0) rfl rfl) hX hA0 hA hS hRc (hK.sub (tys' := [(cI, .int), (cW, .object RX3), (cP, .object RX2)]) [0, 1, 2] rfl)) rfl rfl hl.1 rfl (lv_room (Nat.le_of_ble_eq_true rfl)) dL_filter_11 ⟨Nat.le_of_ble_eq_true rfl, Nat.le_of_ble_eq_true rfl⟩) hF hS hA hown [⟨0, 16, 19, 13⟩, ⟨0, 16, 23, 15⟩] ⟨0, 16, 27, 17⟩ [] (htab.trans rfl) (List.forall_mem_cons.mpr ⟨Or.inr ⟨by decide, _, hts (.classLink RL 13 "java/lang/IndexOutOfBoundsException") (by decide +kernel), hX.2.2.2.2.1⟩, (List.forall_mem_cons.mpr ⟨Or.inr ⟨by decide, _, hts (.classLink RL 15 "java/lang/IllegalArgumentException") (by decide +kernel), hX.2.2.2.2.2.1⟩, (fun _ h => absurd h List.not_mem_nil)⟩)⟩) rfl (by decide) (hts (.classLink RL 17 "java/lang/IllegalStateException") (by decide +kernel)) (z_cast (hts (.initialized "java/lang/IllegalStateException") (by decide +kernel))) (fun q H locs hF hS => ?_)
  refine lv_astore (lv' := [(7, .ref q), (0, .ref (ad (4, 0))), (1, .int (zI a)), (2, .int (zI b)), (3, .int (zI t)), (4, .int (zI bl)), (5, .int (zI sv)), (6, .ref (ad (18, 0)))]) hx hb dL_filter_27 hl (by decide) rfl (fun ls hl => ?_)
  have hl := lv_sub hl [1, 2, 3, 4, 5, 6, 7, 0] rfl
  have hl : lv_has ls 8 [(0, .ref (ad (4, 0))), (1, .int (zI a)), (2, .int (zI b)), (3, .int (zI t)), (4, .int (zI bl)), (5, .int (zI sv)), (6, .ref (ad (18, 0))), (7, .ref q)] := hl
  refine z_iconst hx hb dL_filter_29 ?_
  refine W.widen (k := 2) (n := 70) (Nat.le_of_ble_eq_true rfl) (Nat.le_of_ble_eq_true rfl) ?_
  exact zw_iret hx hb hr hlocks (3, o, c, ar) rfl (zWp_err (by decide)) hF hI hKA hS dL_filter_30

set_option maxHeartbeats 4000000 in
set_option maxRecDepth 100000 in
theorem w_filter_e3c (l : Launch) (hl9 : l.stackTraces = false) (D : va_G) (cI cW cP cJ : ClassId) (ad : zk → Nat) (ar : zk → Int → Int) (c : Int → Int) (np : Int) (pp pn : Int → Int) (pg : Int → Option Nat) (o : Nat → Int64) (a : Int) (b : Int) (t : Int) (bl : Int) (sv : Int) (hYI : zYI ad ar c np pp pn pg) (ha_bl : -2147483648 ≤ bl ∧ bl ≤ 2147483647) (hsv : 0 ≤ sv ∧ sv ≤ 1) (hra : 0 ≤ a ∧ a < 4) (hrb : 0 ≤ b ∧ b < 4) (hrt : 0 ≤ t ∧ t < 4) (hbl : 1 ≤ bl ∧ bl ≤ 32) (hwa : ∀ k, 0 ≤ k → k < c a → -99 ≤ ar (1, a) k ∧ ar (1, a) k ≤ 99) (hwb : ∀ k, 0 ≤ k → k < c b → -99 ≤ ar (1, b) k ∧ ar (1, b) k ≤ 99) (hz : c a ≠ 0) (hz2 : c b ≠ 0) (htt : 65 < c a + c b) : zWC l yL_filter wsL_filter D [(cI, .int), (cW, .object RX3), (cP, .object RX2), (cJ, .long)] (zYK np) (zY cI cW cP cJ ad ar c np pp pn pg o) [.ref (ad (4, 0)), .int (zI a), .int (zI b), .int (zI t), .int (zI bl), .int (zI sv), .ref (ad (18, 0))] (S := Int × (Nat → Int64) × (Int → Int) × (zk → Int → Int)) (zWp 3 (c a + c b - 1) True c ar t (c a + c b - 1) (zLn (zG ar c) c a b)) (fun u => some (.int (zI u.1))) (fun _ => zYK np) (fun u => zY cI cW cP cJ ad u.2.2.2 u.2.2.1 np pp pn pg u.2.1) := by
  obtain ⟨hnp, hcr, hgr, hpl⟩ := hYI
  have hca_ := hcr a hra
  have hcb_ := hcr b hrb
  have hct_ := hcr t hrt
  refine z_startW (cc := cL_filter) (maxL := 8) (ret := some .int) (hh := [(0, 16, 19, 13), (0, 16, 23, 15), (0, 16, 27, 17)]) (own := RL) (by decide) rfl rfl (Nat.le_of_ble_eq_true rfl) [(0, .ref (ad (4, 0))), (1, .int (zI a)), (2, .int (zI b)), (3, .int (zI t)), (4, .int (zI bl)), (5, .int (zI sv)), (6, .ref (ad (18, 0)))] rfl ?_
  intro pp_ ee s mm below meth cc A0 H ls hX hA0 htab hx hb hr hml hts hown hlocks hK hF hI hKA hS hA hl
  have CF : CallFix pp_ mm cc cL_filter 8 s ([.ref (ad (4, 0)), .int (zI a), .int (zI b), .int (zI t), .int (zI bl), .int (zI sv), .ref (ad (18, 0))] : List Value).toArray wsL_filter RL := ⟨hx, hb, hml, hown, hts⟩
  refine lv_aload hx hb dL_filter_0 (lv_at hl 6 rfl) ?_
  refine z_iconst hx hb dL_filter_2 ?_
  refine lv_aload_n hx hb dL_filter_3 rfl (lv_at hl 0 rfl) ?_
  refine lv_iload_n hx hb dL_filter_4 rfl (lv_at hl 1 rfl) ?_
  refine lv_iload_n hx hb dL_filter_5 rfl (lv_at hl 2 rfl) ?_
  refine lv_iload_n hx hb dL_filter_6 rfl (lv_at hl 3 rfl) ?_
  refine lv_iload hx hb dL_filter_7 (lv_at hl 4 rfl) ?_
  refine lv_iload hx hb dL_filter_9 (lv_at hl 5 rfl) ?_
  have hRc := zf_sub hF [(4, 0), (5, 0), (0, a), (1, a), (0, b), (1, b)] (List.forall_mem_cons.mpr ⟨zKf 4 rfl rfl, (List.forall_mem_cons.mpr ⟨zKf 5 rfl rfl, (List.forall_mem_cons.mpr ⟨zK0 hra, (List.forall_mem_cons.mpr ⟨zK1 hra, (List.forall_mem_cons.mpr ⟨zK0 hrb, (List.forall_mem_cons.mpr ⟨zK1 hrb, (fun _ h => absurd h List.not_mem_nil)⟩)⟩)⟩)⟩)⟩)⟩) (wc := [((ad (4, 0)), .inr (4, [.ref (ad (5, 0)), .ref (ad (6, 0)), .int (zI np), .ref (ad (7, 0)), .ref (ad (8, 0)), .ref (ad (9, 0)), .ref (ad (10, 0))])), ((ad (5, 0)), .inl (cW, 4, .inr (.inr (.inr (.inr (fun k : Nat => (zRg ad) (k : Int))))))), ((ad (0, a)), .inr (2, [.ref (ad (1, a)), .int (zI (c a))])), ((ad (1, a)), .inl (cI, 64, .inl (zA (ar (1, a))))), ((ad (0, b)), .inr (2, [.ref (ad (1, b)), .int (zI (c b))])), ((ad (1, b)), .inl (cI, 64, .inl (zA (ar (1, b)))))]) rfl
  refine zw_catch (E := "java/lang/IllegalStateException") (name := "java/lang/IllegalStateException") (own := RL) (vx_runV (As := [.int (zI a), .int (zI b), .int (zI t), .int (zI bl), .int (zI sv)]) (rest := [.int (zI 0), .ref (ad (18, 0))]) CF (x_X5_filter_3c l hl9 D cI cW cP (ad (4, 0)) (ad (5, 0)) (ad (6, 0)) np (ad (7, 0)) (ad (8, 0)) (ad (9, 0)) (ad (10, 0)) (zRg ad) a b t bl sv (ad (0, a)) (ad (1, a)) (c a) (ar (1, a)) (ad (0, b)) (ad (1, b)) (c b) (ar (1, b)) (ad (0, t)) (by first | omega | assumption) (by exact zRg_at hra) (by first | omega | assumption) (by exact zRg_at hrb) (by first | omega | assumption) (by exact zRg_at hrt) (by first | omega | assumption) (by first | omega | assumption) (by first | omega | assumption) (by first | omega | assumption) (by first | omega | assumption) (by first | omega | assumption) (by first | omega | assumption) (by first | omega | assumption) A0 H.size) (cwV 5 hts gL_filter_X5_filter rfl rfl rfl (by decide +kernel) ⟨Nat.le_of_ble_eq_true rfl, Nat.le_of_ble_eq_true rfl⟩) (zw_preTV (va_recv hK hRc (ci := 4) (q0 := 0) rfl rfl) hX hA0 hA hS hRc (hK.sub (tys' := [(cI, .int), (cW, .object RX3), (cP, .object RX2)]) [0, 1, 2] rfl)) rfl rfl hl.1 rfl (lv_room (Nat.le_of_ble_eq_true rfl)) dL_filter_11 ⟨Nat.le_of_ble_eq_true rfl, Nat.le_of_ble_eq_true rfl⟩) hF hS hA hown [⟨0, 16, 19, 13⟩, ⟨0, 16, 23, 15⟩] ⟨0, 16, 27, 17⟩ [] (htab.trans rfl) (List.forall_mem_cons.mpr ⟨Or.inr ⟨by decide, _, hts (.classLink RL 13 "java/lang/IndexOutOfBoundsException") (by decide +kernel), hX.2.2.2.2.1⟩, (List.forall_mem_cons.mpr ⟨Or.inr ⟨by decide, _, hts (.classLink RL 15 "java/lang/IllegalArgumentException") (by decide +kernel), hX.2.2.2.2.2.1⟩, (fun _ h => absurd h List.not_mem_nil)⟩)⟩) rfl (by decide) (hts (.classLink RL 17 "java/lang/IllegalStateException") (by decide +kernel)) (z_cast (hts (.initialized "java/lang/IllegalStateException") (by decide +kernel))) (fun q H locs hF hS => ?_)
  refine lv_astore (lv' := [(7, .ref q), (0, .ref (ad (4, 0))), (1, .int (zI a)), (2, .int (zI b)), (3, .int (zI t)), (4, .int (zI bl)), (5, .int (zI sv)), (6, .ref (ad (18, 0)))]) hx hb dL_filter_27 hl (by decide) rfl (fun ls hl => ?_)
  have hl := lv_sub hl [1, 2, 3, 4, 5, 6, 7, 0] rfl
  have hl : lv_has ls 8 [(0, .ref (ad (4, 0))), (1, .int (zI a)), (2, .int (zI b)), (3, .int (zI t)), (4, .int (zI bl)), (5, .int (zI sv)), (6, .ref (ad (18, 0))), (7, .ref q)] := hl
  refine z_iconst hx hb dL_filter_29 ?_
  refine W.widen (k := 2) (n := 70) (Nat.le_of_ble_eq_true rfl) (Nat.le_of_ble_eq_true rfl) ?_
  exact zw_iret hx hb hr hlocks (3, o, c, ar) rfl (zWp_err (by decide)) hF hI hKA hS dL_filter_30

set_option maxHeartbeats 4000000 in
set_option maxRecDepth 100000 in
theorem w_filter_D (l : Launch) (hl9 : l.stackTraces = false) (D : va_G) (cI cW cP cJ : ClassId) (ad : zk → Nat) (ar : zk → Int → Int) (c : Int → Int) (np : Int) (pp pn : Int → Int) (pg : Int → Option Nat) (o : Nat → Int64) (a : Int) (b : Int) (t : Int) (bl : Int) (sv : Int) (hYI : zYI ad ar c np pp pn pg) (ha_bl : -2147483648 ≤ bl ∧ bl ≤ 2147483647) (hsv : 0 ≤ sv ∧ sv ≤ 1) (hra : 0 ≤ a ∧ a < 4) (hrb : 0 ≤ b ∧ b < 4) (hrt : 0 ≤ t ∧ t < 4) (hbl : 1 ≤ bl ∧ bl ≤ 32) (hwa : ∀ k, 0 ≤ k → k < c a → -99 ≤ ar (1, a) k ∧ ar (1, a) k ≤ 99) (hwb : ∀ k, 0 ≤ k → k < c b → -99 ≤ ar (1, b) k ∧ ar (1, b) k ≤ 99) (hz : c a ≠ 0) (hz2 : c b ≠ 0) (htt : c a + c b ≤ 65) (hta : ¬ t = a) (htb : ¬ t = b) : zWC l yL_filter wsL_filter D [(cI, .int), (cW, .object RX3), (cP, .object RX2), (cJ, .long)] (zYK np) (zY cI cW cP cJ ad ar c np pp pn pg o) [.ref (ad (4, 0)), .int (zI a), .int (zI b), .int (zI t), .int (zI bl), .int (zI sv), .ref (ad (18, 0))] (S := Int × (Nat → Int64) × (Int → Int) × (zk → Int → Int)) (zWp 0 (c a + c b - 1) True c ar t (c a + c b - 1) (zLn (zG ar c) c a b)) (fun u => some (.int (zI u.1))) (fun _ => zYK np) (fun u => zY cI cW cP cJ ad u.2.2.2 u.2.2.1 np pp pn pg u.2.1) := by
  obtain ⟨hnp, hcr, hgr, hpl⟩ := hYI
  have hca_ := hcr a hra
  have hcb_ := hcr b hrb
  have hct_ := hcr t hrt
  refine z_startW (cc := cL_filter) (maxL := 8) (ret := some .int) (hh := [(0, 16, 19, 13), (0, 16, 23, 15), (0, 16, 27, 17)]) (own := RL) (by decide) rfl rfl (Nat.le_of_ble_eq_true rfl) [(0, .ref (ad (4, 0))), (1, .int (zI a)), (2, .int (zI b)), (3, .int (zI t)), (4, .int (zI bl)), (5, .int (zI sv)), (6, .ref (ad (18, 0)))] rfl ?_
  intro pp_ ee s mm below meth cc A0 H ls hX hA0 htab hx hb hr hml hts hown hlocks hK hF hI hKA hS hA hl
  have CF : CallFix pp_ mm cc cL_filter 8 s ([.ref (ad (4, 0)), .int (zI a), .int (zI b), .int (zI t), .int (zI bl), .int (zI sv), .ref (ad (18, 0))] : List Value).toArray wsL_filter RL := ⟨hx, hb, hml, hown, hts⟩
  refine lv_aload hx hb dL_filter_0 (lv_at hl 6 rfl) ?_
  refine z_iconst hx hb dL_filter_2 ?_
  refine lv_aload_n hx hb dL_filter_3 rfl (lv_at hl 0 rfl) ?_
  refine lv_iload_n hx hb dL_filter_4 rfl (lv_at hl 1 rfl) ?_
  refine lv_iload_n hx hb dL_filter_5 rfl (lv_at hl 2 rfl) ?_
  refine lv_iload_n hx hb dL_filter_6 rfl (lv_at hl 3 rfl) ?_
  refine lv_iload hx hb dL_filter_7 (lv_at hl 4 rfl) ?_
  refine lv_iload hx hb dL_filter_9 (lv_at hl 5 rfl) ?_
  have hRc := zf_sub hF [(4, 0), (5, 0), (8, 0), (0, a), (1, a), (0, b), (1, b)] (List.forall_mem_cons.mpr ⟨zKf 4 rfl rfl, (List.forall_mem_cons.mpr ⟨zKf 5 rfl rfl, (List.forall_mem_cons.mpr ⟨zKf 8 rfl rfl, (List.forall_mem_cons.mpr ⟨zK0 hra, (List.forall_mem_cons.mpr ⟨zK1 hra, (List.forall_mem_cons.mpr ⟨zK0 hrb, (List.forall_mem_cons.mpr ⟨zK1 hrb, (fun _ h => absurd h List.not_mem_nil)⟩)⟩)⟩)⟩)⟩)⟩)⟩) (wc := [((ad (4, 0)), .inr (4, [.ref (ad (5, 0)), .ref (ad (6, 0)), .int (zI np), .ref (ad (7, 0)), .ref (ad (8, 0)), .ref (ad (9, 0)), .ref (ad (10, 0))])), ((ad (5, 0)), .inl (cW, 4, .inr (.inr (.inr (.inr (fun k : Nat => (zRg ad) (k : Int))))))), ((ad (8, 0)), .inr (0, [.ref (ad (16, 0)), .ref (ad (17, 0))])), ((ad (0, a)), .inr (2, [.ref (ad (1, a)), .int (zI (c a))])), ((ad (1, a)), .inl (cI, 64, .inl (zA (ar (1, a))))), ((ad (0, b)), .inr (2, [.ref (ad (1, b)), .int (zI (c b))])), ((ad (1, b)), .inl (cI, 64, .inl (zA (ar (1, b)))))]) rfl
  have hPc := zf_sub hF [(0, t), (1, t), (16, 0), (17, 0)] (List.forall_mem_cons.mpr ⟨zK0 hrt, (List.forall_mem_cons.mpr ⟨zK1 hrt, (List.forall_mem_cons.mpr ⟨zKf 16 rfl rfl, (List.forall_mem_cons.mpr ⟨zKf 17 rfl rfl, (fun _ h => absurd h List.not_mem_nil)⟩)⟩)⟩)⟩) (wc := [((ad (0, t)), .inr (2, [.ref (ad (1, t)), .int (zI (c t))])), ((ad (1, t)), .inl (cI, 64, .inl (zA (ar (1, t))))), ((ad (16, 0)), .inl (cI, 64, .inl (zA (ar (16, 0))))), ((ad (17, 0)), .inl (cI, 96, .inl (zA (ar (17, 0)))))]) rfl
  have hDc := zf_subD hI hKA [(0, t), (1, t), (16, 0), (17, 0)] (List.forall_mem_cons.mpr ⟨zK0 hrt, (List.forall_mem_cons.mpr ⟨zK1 hrt, (List.forall_mem_cons.mpr ⟨zKf 16 rfl rfl, (List.forall_mem_cons.mpr ⟨zKf 17 rfl rfl, (fun _ h => absurd h List.not_mem_nil)⟩)⟩)⟩)⟩) (by simp) (wc := [((ad (0, t)), .inr (2, [.ref (ad (1, t)), .int (zI (c t))])), ((ad (1, t)), .inl (cI, 64, .inl (zA (ar (1, t))))), ((ad (16, 0)), .inl (cI, 64, .inl (zA (ar (16, 0))))), ((ad (17, 0)), .inl (cI, 96, .inl (zA (ar (17, 0)))))]) rfl
  have hXc := zf_dis hI [(0, t), (1, t), (16, 0), (17, 0)] [(4, 0), (5, 0), (8, 0), (0, a), (1, a), (0, b), (1, b)] (List.forall_mem_cons.mpr ⟨zK0 hrt, (List.forall_mem_cons.mpr ⟨zK1 hrt, (List.forall_mem_cons.mpr ⟨zKf 16 rfl rfl, (List.forall_mem_cons.mpr ⟨zKf 17 rfl rfl, (fun _ h => absurd h List.not_mem_nil)⟩)⟩)⟩)⟩) (List.forall_mem_cons.mpr ⟨zKf 4 rfl rfl, (List.forall_mem_cons.mpr ⟨zKf 5 rfl rfl, (List.forall_mem_cons.mpr ⟨zKf 8 rfl rfl, (List.forall_mem_cons.mpr ⟨zK0 hra, (List.forall_mem_cons.mpr ⟨zK1 hra, (List.forall_mem_cons.mpr ⟨zK0 hrb, (List.forall_mem_cons.mpr ⟨zK1 hrb, (fun _ h => absurd h List.not_mem_nil)⟩)⟩)⟩)⟩)⟩)⟩)⟩) (by simp [show ¬ a = t from fun h => hta h.symm, show ¬ b = t from fun h => htb h.symm]) (wc := [((ad (0, t)), .inr (2, [.ref (ad (1, t)), .int (zI (c t))])), ((ad (1, t)), .inl (cI, 64, .inl (zA (ar (1, t))))), ((ad (16, 0)), .inl (cI, 64, .inl (zA (ar (16, 0))))), ((ad (17, 0)), .inl (cI, 96, .inl (zA (ar (17, 0)))))]) (rc := [((ad (4, 0)), .inr (4, [.ref (ad (5, 0)), .ref (ad (6, 0)), .int (zI np), .ref (ad (7, 0)), .ref (ad (8, 0)), .ref (ad (9, 0)), .ref (ad (10, 0))])), ((ad (5, 0)), .inl (cW, 4, .inr (.inr (.inr (.inr (fun k : Nat => (zRg ad) (k : Int))))))), ((ad (8, 0)), .inr (0, [.ref (ad (16, 0)), .ref (ad (17, 0))])), ((ad (0, a)), .inr (2, [.ref (ad (1, a)), .int (zI (c a))])), ((ad (1, a)), .inl (cI, 64, .inl (zA (ar (1, a))))), ((ad (0, b)), .inr (2, [.ref (ad (1, b)), .int (zI (c b))])), ((ad (1, b)), .inl (cI, 64, .inl (zA (ar (1, b)))))]) rfl rfl
  refine zf_call (wc := [((ad (0, t)), .inr (2, [.ref (ad (1, t)), .int (zI (c t))])), ((ad (1, t)), .inl (cI, 64, .inl (zA (ar (1, t))))), ((ad (16, 0)), .inl (cI, 64, .inl (zA (ar (16, 0))))), ((ad (17, 0)), .inl (cI, 96, .inl (zA (ar (17, 0)))))]) (va_runV (As := [.int (zI a), .int (zI b), .int (zI t), .int (zI bl), .int (zI sv)]) (rest := [.int (zI 0), .ref (ad (18, 0))]) CF (c_X5_filter_D l D cI cW cP (ad (4, 0)) (ad (5, 0)) (ad (6, 0)) np (ad (7, 0)) (ad (8, 0)) (ad (9, 0)) (ad (10, 0)) (zRg ad) (ad (16, 0)) (ad (17, 0)) a b t bl sv (ad (0, a)) (ad (1, a)) (c a) (ar (1, a)) (ad (0, b)) (ad (1, b)) (c b) (ar (1, b)) (ad (0, t)) (ad (1, t)) (c t) (ar (1, t)) (ar (16, 0)) (ar (17, 0)) (by first | omega | assumption) (by exact zRg_at hra) (by first | omega | assumption) (by exact zRg_at hrb) (by first | omega | assumption) (by exact zRg_at hrt) (by first | omega | assumption) (by first | omega | assumption) (by first | omega | assumption) (by first | omega | assumption) (by first | omega | assumption) (by first | omega | assumption) (by first | omega | assumption) H.size) (cwV 5 hts gL_filter_X5_filter rfl rfl rfl (by decide +kernel) ⟨Nat.le_of_ble_eq_true rfl, Nat.le_of_ble_eq_true rfl⟩) (z_preV (va_recv hK hRc (ci := 4) (q0 := 0) rfl rfl) hPc hDc hRc hXc (hK.sub (tys' := [(cI, .int), (cW, .object RX3), (cP, .object RX2)]) [0, 1, 2] rfl)) rfl rfl hl.1 rfl (lv_room (Nat.le_of_ble_eq_true rfl)) dL_filter_11 ⟨Nat.le_of_ble_eq_true rfl, Nat.le_of_ble_eq_true rfl⟩) hF hI hKA hS hA [(0, t), (1, t), (16, 0), (17, 0)] [(0, t), (1, t), (16, 0), (17, 0)] (List.forall_mem_cons.mpr ⟨zK0 hrt, (List.forall_mem_cons.mpr ⟨zK1 hrt, (List.forall_mem_cons.mpr ⟨zKf 16 rfl rfl, (List.forall_mem_cons.mpr ⟨zKf 17 rfl rfl, (fun _ h => absurd h List.not_mem_nil)⟩)⟩)⟩)⟩) rfl (fun _ => zYK np) (fun (a2, r2, w2) => zY cI cW cP cJ ad (zUA (zUA (zUA ar (1, t) a2) (16, 0) r2) (17, 0) w2) (zU c t ((c a) + (c b) - 1)) np pp pn pg o) (fun u hu => by
        obtain ⟨a2, r2, w2⟩ := u
        show ([(ad (0, t), .inr (2, [.ref (ad (1, t)), .int (zI ((zU c t ((c a) + (c b) - 1)) t))])), (ad (1, t), .inl (cI, 64, .inl (zA ((zUA (zUA (zUA ar (1, t) a2) (16, 0) r2) (17, 0) w2) (1, t))))), (ad (16, 0), .inl (cI, 64, .inl (zA ((zUA (zUA (zUA ar (1, t) a2) (16, 0) r2) (17, 0) w2) (16, 0))))), (ad (17, 0), .inl (cI, 96, .inl (zA ((zUA (zUA (zUA ar (1, t) a2) (16, 0) r2) (17, 0) w2) (17, 0)))))] : va_W) = _
        rw [show (zU c t ((c a) + (c b) - 1)) t = (c a) + (c b) - 1 from zU_s _ _ _, show (zUA (zUA (zUA ar (1, t) a2) (16, 0) r2) (17, 0) w2) (1, t) = a2 from by simp [zUA], show (zUA (zUA (zUA ar (1, t) a2) (16, 0) r2) (17, 0) w2) (16, 0) = r2 from by simp [zUA], show (zUA (zUA (zUA ar (1, t) a2) (16, 0) r2) (17, 0) w2) (17, 0) = w2 from by simp [zUA]]) (fun u hu k hk => by
        obtain ⟨a2, r2, w2⟩ := u
        by_cases hm : k ∈ [(0, t), (1, t), (16, 0), (17, 0)]
        · exact Or.inl hm
        · refine Or.inr ⟨hk, hm, ?_⟩
          simp only [List.mem_cons, List.not_mem_nil, or_false, not_or] at hm
          exact zY_ext (by simp [zUA, hm]) (fun h0 => zU_n _ _ (fun h1 => hm.1 (Prod.ext h0 h1)))) (cells' := 0) (slots' := 0) rfl rfl (fun u H locs hp_ hF hI hKA hS => ?_)
  obtain ⟨a2, r2, w2⟩ := u
  have hp_ : ∀ k, 0 ≤ k → k < (c a) + (c b) - 1 → a2 k = lin (ar (1, a)) (c a) (ar (1, b)) (c b)  k := hp_
  have hF : zFP D (zYK np) (zY cI cW cP cJ ad (zUA (zUA (zUA ar (1, t) a2) (16, 0) r2) (17, 0) w2) (zU c t ((c a) + (c b) - 1)) np pp pn pg o) H := hF
  have hI : zIn (zYK np) (zY cI cW cP cJ ad (zUA (zUA (zUA ar (1, t) a2) (16, 0) r2) (17, 0) w2) (zU c t ((c a) + (c b) - 1)) np pp pn pg o) := hI
  have hrg_ : -2147483648 ≤ (c a) + (c b) - 1 ∧ (c a) + (c b) - 1 ≤ 2147483647 := by omega
  refine z_i2l hx hb dL_filter_14 hrg_ ?_
  refine zw_last hx hb hK hF hI hKA hS (ko := (18, 0)) (zKf 18 rfl rfl) (v := (c a) + (c b) - 1) rfl 3 rfl dL_filter_15 (zY cI cW cP cJ ad (zUA (zUA (zUA ar (1, t) a2) (16, 0) r2) (17, 0) w2) (zU c t ((c a) + (c b) - 1)) np pp pn pg (vp_updL o 0 (zL ((c a) + (c b) - 1)))) (fun k hk hne => zY_out hk hne) rfl (fun H locs hF hI hKA hS => ?_)
  refine lv_goto (tgt := 31) hx hb dL_filter_16 (by decide) ?_
  refine z_iconst hx hb dL_filter_31 ?_
  refine W.widen (k := 2) (n := 70) (Nat.le_of_ble_eq_true rfl) (Nat.le_of_ble_eq_true rfl) ?_
  have hv_e : (c a) + (c b) - 1 = c a + c b - 1 := by rfl
  rw [hv_e] at hrg_
  have hv_0 : (vp_updL o 0 (zL ((c a) + (c b) - 1))) 0 = zL (c a + c b - 1) := (show vp_updL o 0 (zL ((c a) + (c b) - 1)) 0 = zL ((c a) + (c b) - 1) from if_pos rfl).trans (congrArg zL hv_e)
  have hv_1 : ∀ k, 0 ≤ k → k < c a + c b - 1 → (zUA (zUA (zUA ar (1, t) a2) (16, 0) r2) (17, 0) w2) (1, t) k = (zLn (zG ar c) c a b) k := by
    intro k h1 h2
    rw [show (zUA (zUA (zUA ar (1, t) a2) (16, 0) r2) (17, 0) w2) (1, t) = a2 from by simp [zUA]]
    exact hp_ k h1 h2
  exact zw_iret hx hb hr hlocks (0, vp_updL o 0 (zL ((c a) + (c b) - 1)), zU c t ((c a) + (c b) - 1), zUA (zUA (zUA ar (1, t) a2) (16, 0) r2) (17, 0) w2) rfl (zWp_mu hv_0 hrg_ rfl hv_1 (fun r hr_ => by simp [zUA, hr_]) (fun j => by simp [zUA])) hF hI hKA hS dL_filter_32

set_option maxHeartbeats 4000000 in
set_option maxRecDepth 100000 in
theorem w_filter_A (l : Launch) (hl9 : l.stackTraces = false) (D : va_G) (cI cW cP cJ : ClassId) (ad : zk → Nat) (ar : zk → Int → Int) (c : Int → Int) (np : Int) (pp pn : Int → Int) (pg : Int → Option Nat) (o : Nat → Int64) (a : Int) (b : Int) (t : Int) (bl : Int) (sv : Int) (hYI : zYI ad ar c np pp pn pg) (ha_bl : -2147483648 ≤ bl ∧ bl ≤ 2147483647) (hsv : 0 ≤ sv ∧ sv ≤ 1) (hra : 0 ≤ a ∧ a < 4) (hrb : 0 ≤ b ∧ b < 4) (hrt : 0 ≤ t ∧ t < 4) (hbl : 1 ≤ bl ∧ bl ≤ 32) (hwa : ∀ k, 0 ≤ k → k < c a → -99 ≤ ar (1, a) k ∧ ar (1, a) k ≤ 99) (hwb : ∀ k, 0 ≤ k → k < c b → -99 ≤ ar (1, b) k ∧ ar (1, b) k ≤ 99) (hz : c a ≠ 0) (hz2 : c b ≠ 0) (htt : c a + c b ≤ 65) (hta : a = t) (hba : ¬ b = a) : zWC l yL_filter wsL_filter D [(cI, .int), (cW, .object RX3), (cP, .object RX2), (cJ, .long)] (zYK np) (zY cI cW cP cJ ad ar c np pp pn pg o) [.ref (ad (4, 0)), .int (zI a), .int (zI b), .int (zI t), .int (zI bl), .int (zI sv), .ref (ad (18, 0))] (S := Int × (Nat → Int64) × (Int → Int) × (zk → Int → Int)) (zWp 0 (c a + c b - 1) True c ar t (c a + c b - 1) (zLn (zG ar c) c a b)) (fun u => some (.int (zI u.1))) (fun _ => zYK np) (fun u => zY cI cW cP cJ ad u.2.2.2 u.2.2.1 np pp pn pg u.2.1) := by
  obtain ⟨hnp, hcr, hgr, hpl⟩ := hYI
  have hca_ := hcr a hra
  have hcb_ := hcr b hrb
  have hct_ := hcr t hrt
  subst hta
  refine z_startW (cc := cL_filter) (maxL := 8) (ret := some .int) (hh := [(0, 16, 19, 13), (0, 16, 23, 15), (0, 16, 27, 17)]) (own := RL) (by decide) rfl rfl (Nat.le_of_ble_eq_true rfl) [(0, .ref (ad (4, 0))), (1, .int (zI a)), (2, .int (zI b)), (3, .int (zI a)), (4, .int (zI bl)), (5, .int (zI sv)), (6, .ref (ad (18, 0)))] rfl ?_
  intro pp_ ee s mm below meth cc A0 H ls hX hA0 htab hx hb hr hml hts hown hlocks hK hF hI hKA hS hA hl
  have CF : CallFix pp_ mm cc cL_filter 8 s ([.ref (ad (4, 0)), .int (zI a), .int (zI b), .int (zI a), .int (zI bl), .int (zI sv), .ref (ad (18, 0))] : List Value).toArray wsL_filter RL := ⟨hx, hb, hml, hown, hts⟩
  refine lv_aload hx hb dL_filter_0 (lv_at hl 6 rfl) ?_
  refine z_iconst hx hb dL_filter_2 ?_
  refine lv_aload_n hx hb dL_filter_3 rfl (lv_at hl 0 rfl) ?_
  refine lv_iload_n hx hb dL_filter_4 rfl (lv_at hl 1 rfl) ?_
  refine lv_iload_n hx hb dL_filter_5 rfl (lv_at hl 2 rfl) ?_
  refine lv_iload_n hx hb dL_filter_6 rfl (lv_at hl 3 rfl) ?_
  refine lv_iload hx hb dL_filter_7 (lv_at hl 4 rfl) ?_
  refine lv_iload hx hb dL_filter_9 (lv_at hl 5 rfl) ?_
  have hRc := zf_sub hF [(4, 0), (5, 0), (8, 0), (0, b), (1, b)] (List.forall_mem_cons.mpr ⟨zKf 4 rfl rfl, (List.forall_mem_cons.mpr ⟨zKf 5 rfl rfl, (List.forall_mem_cons.mpr ⟨zKf 8 rfl rfl, (List.forall_mem_cons.mpr ⟨zK0 hrb, (List.forall_mem_cons.mpr ⟨zK1 hrb, (fun _ h => absurd h List.not_mem_nil)⟩)⟩)⟩)⟩)⟩) (wc := [((ad (4, 0)), .inr (4, [.ref (ad (5, 0)), .ref (ad (6, 0)), .int (zI np), .ref (ad (7, 0)), .ref (ad (8, 0)), .ref (ad (9, 0)), .ref (ad (10, 0))])), ((ad (5, 0)), .inl (cW, 4, .inr (.inr (.inr (.inr (fun k : Nat => (zRg ad) (k : Int))))))), ((ad (8, 0)), .inr (0, [.ref (ad (16, 0)), .ref (ad (17, 0))])), ((ad (0, b)), .inr (2, [.ref (ad (1, b)), .int (zI (c b))])), ((ad (1, b)), .inl (cI, 64, .inl (zA (ar (1, b)))))]) rfl
  have hPc := zf_sub hF [(0, a), (1, a), (16, 0), (17, 0)] (List.forall_mem_cons.mpr ⟨zK0 hra, (List.forall_mem_cons.mpr ⟨zK1 hra, (List.forall_mem_cons.mpr ⟨zKf 16 rfl rfl, (List.forall_mem_cons.mpr ⟨zKf 17 rfl rfl, (fun _ h => absurd h List.not_mem_nil)⟩)⟩)⟩)⟩) (wc := [((ad (0, a)), .inr (2, [.ref (ad (1, a)), .int (zI (c a))])), ((ad (1, a)), .inl (cI, 64, .inl (zA (ar (1, a))))), ((ad (16, 0)), .inl (cI, 64, .inl (zA (ar (16, 0))))), ((ad (17, 0)), .inl (cI, 96, .inl (zA (ar (17, 0)))))]) rfl
  have hDc := zf_subD hI hKA [(0, a), (1, a), (16, 0), (17, 0)] (List.forall_mem_cons.mpr ⟨zK0 hra, (List.forall_mem_cons.mpr ⟨zK1 hra, (List.forall_mem_cons.mpr ⟨zKf 16 rfl rfl, (List.forall_mem_cons.mpr ⟨zKf 17 rfl rfl, (fun _ h => absurd h List.not_mem_nil)⟩)⟩)⟩)⟩) (by simp) (wc := [((ad (0, a)), .inr (2, [.ref (ad (1, a)), .int (zI (c a))])), ((ad (1, a)), .inl (cI, 64, .inl (zA (ar (1, a))))), ((ad (16, 0)), .inl (cI, 64, .inl (zA (ar (16, 0))))), ((ad (17, 0)), .inl (cI, 96, .inl (zA (ar (17, 0)))))]) rfl
  have hXc := zf_dis hI [(0, a), (1, a), (16, 0), (17, 0)] [(4, 0), (5, 0), (8, 0), (0, b), (1, b)] (List.forall_mem_cons.mpr ⟨zK0 hra, (List.forall_mem_cons.mpr ⟨zK1 hra, (List.forall_mem_cons.mpr ⟨zKf 16 rfl rfl, (List.forall_mem_cons.mpr ⟨zKf 17 rfl rfl, (fun _ h => absurd h List.not_mem_nil)⟩)⟩)⟩)⟩) (List.forall_mem_cons.mpr ⟨zKf 4 rfl rfl, (List.forall_mem_cons.mpr ⟨zKf 5 rfl rfl, (List.forall_mem_cons.mpr ⟨zKf 8 rfl rfl, (List.forall_mem_cons.mpr ⟨zK0 hrb, (List.forall_mem_cons.mpr ⟨zK1 hrb, (fun _ h => absurd h List.not_mem_nil)⟩)⟩)⟩)⟩)⟩) (by simp [hba]) (wc := [((ad (0, a)), .inr (2, [.ref (ad (1, a)), .int (zI (c a))])), ((ad (1, a)), .inl (cI, 64, .inl (zA (ar (1, a))))), ((ad (16, 0)), .inl (cI, 64, .inl (zA (ar (16, 0))))), ((ad (17, 0)), .inl (cI, 96, .inl (zA (ar (17, 0)))))]) (rc := [((ad (4, 0)), .inr (4, [.ref (ad (5, 0)), .ref (ad (6, 0)), .int (zI np), .ref (ad (7, 0)), .ref (ad (8, 0)), .ref (ad (9, 0)), .ref (ad (10, 0))])), ((ad (5, 0)), .inl (cW, 4, .inr (.inr (.inr (.inr (fun k : Nat => (zRg ad) (k : Int))))))), ((ad (8, 0)), .inr (0, [.ref (ad (16, 0)), .ref (ad (17, 0))])), ((ad (0, b)), .inr (2, [.ref (ad (1, b)), .int (zI (c b))])), ((ad (1, b)), .inl (cI, 64, .inl (zA (ar (1, b)))))]) rfl rfl
  refine zf_call (wc := [((ad (0, a)), .inr (2, [.ref (ad (1, a)), .int (zI (c a))])), ((ad (1, a)), .inl (cI, 64, .inl (zA (ar (1, a))))), ((ad (16, 0)), .inl (cI, 64, .inl (zA (ar (16, 0))))), ((ad (17, 0)), .inl (cI, 96, .inl (zA (ar (17, 0)))))]) (va_runV (As := [.int (zI a), .int (zI b), .int (zI a), .int (zI bl), .int (zI sv)]) (rest := [.int (zI 0), .ref (ad (18, 0))]) CF (c_X5_filter_A l D cI cW cP (ad (4, 0)) (ad (5, 0)) (ad (6, 0)) np (ad (7, 0)) (ad (8, 0)) (ad (9, 0)) (ad (10, 0)) (zRg ad) (ad (16, 0)) (ad (17, 0)) a b a bl sv (ad (0, a)) (ad (1, a)) (c a) (ar (1, a)) (ad (0, b)) (ad (1, b)) (c b) (ar (1, b)) (ar (16, 0)) (ar (17, 0)) (by first | omega | assumption) (by exact zRg_at hra) (by first | omega | assumption) (by exact zRg_at hrb) (by first | omega | assumption) (by exact zRg_at hrt) (by first | omega | assumption) (by first | omega | assumption) (by first | omega | assumption) (by first | omega | assumption) (by first | omega | assumption) (by first | omega | assumption) (by first | omega | assumption) H.size) (cwV 5 hts gL_filter_X5_filter rfl rfl rfl (by decide +kernel) ⟨Nat.le_of_ble_eq_true rfl, Nat.le_of_ble_eq_true rfl⟩) (z_preV (va_recv hK hRc (ci := 4) (q0 := 0) rfl rfl) hPc hDc hRc hXc (hK.sub (tys' := [(cI, .int), (cW, .object RX3), (cP, .object RX2)]) [0, 1, 2] rfl)) rfl rfl hl.1 rfl (lv_room (Nat.le_of_ble_eq_true rfl)) dL_filter_11 ⟨Nat.le_of_ble_eq_true rfl, Nat.le_of_ble_eq_true rfl⟩) hF hI hKA hS hA [(0, a), (1, a), (16, 0), (17, 0)] [(0, a), (1, a), (16, 0), (17, 0)] (List.forall_mem_cons.mpr ⟨zK0 hra, (List.forall_mem_cons.mpr ⟨zK1 hra, (List.forall_mem_cons.mpr ⟨zKf 16 rfl rfl, (List.forall_mem_cons.mpr ⟨zKf 17 rfl rfl, (fun _ h => absurd h List.not_mem_nil)⟩)⟩)⟩)⟩) rfl (fun _ => zYK np) (fun (a2, r2, w2) => zY cI cW cP cJ ad (zUA (zUA (zUA ar (1, a) a2) (16, 0) r2) (17, 0) w2) (zU c a ((c a) + (c b) - 1)) np pp pn pg o) (fun u hu => by
        obtain ⟨a2, r2, w2⟩ := u
        show ([(ad (0, a), .inr (2, [.ref (ad (1, a)), .int (zI ((zU c a ((c a) + (c b) - 1)) a))])), (ad (1, a), .inl (cI, 64, .inl (zA ((zUA (zUA (zUA ar (1, a) a2) (16, 0) r2) (17, 0) w2) (1, a))))), (ad (16, 0), .inl (cI, 64, .inl (zA ((zUA (zUA (zUA ar (1, a) a2) (16, 0) r2) (17, 0) w2) (16, 0))))), (ad (17, 0), .inl (cI, 96, .inl (zA ((zUA (zUA (zUA ar (1, a) a2) (16, 0) r2) (17, 0) w2) (17, 0)))))] : va_W) = _
        rw [show (zU c a ((c a) + (c b) - 1)) a = (c a) + (c b) - 1 from zU_s _ _ _, show (zUA (zUA (zUA ar (1, a) a2) (16, 0) r2) (17, 0) w2) (1, a) = a2 from by simp [zUA], show (zUA (zUA (zUA ar (1, a) a2) (16, 0) r2) (17, 0) w2) (16, 0) = r2 from by simp [zUA], show (zUA (zUA (zUA ar (1, a) a2) (16, 0) r2) (17, 0) w2) (17, 0) = w2 from by simp [zUA]]) (fun u hu k hk => by
        obtain ⟨a2, r2, w2⟩ := u
        by_cases hm : k ∈ [(0, a), (1, a), (16, 0), (17, 0)]
        · exact Or.inl hm
        · refine Or.inr ⟨hk, hm, ?_⟩
          simp only [List.mem_cons, List.not_mem_nil, or_false, not_or] at hm
          exact zY_ext (by simp [zUA, hm]) (fun h0 => zU_n _ _ (fun h1 => hm.1 (Prod.ext h0 h1)))) (cells' := 0) (slots' := 0) rfl rfl (fun u H locs hp_ hF hI hKA hS => ?_)
  obtain ⟨a2, r2, w2⟩ := u
  have hp_ : ∀ k, 0 ≤ k → k < (c a) + (c b) - 1 → a2 k = lin (ar (1, a)) (c a) (ar (1, b)) (c b)  k := hp_
  have hF : zFP D (zYK np) (zY cI cW cP cJ ad (zUA (zUA (zUA ar (1, a) a2) (16, 0) r2) (17, 0) w2) (zU c a ((c a) + (c b) - 1)) np pp pn pg o) H := hF
  have hI : zIn (zYK np) (zY cI cW cP cJ ad (zUA (zUA (zUA ar (1, a) a2) (16, 0) r2) (17, 0) w2) (zU c a ((c a) + (c b) - 1)) np pp pn pg o) := hI
  have hrg_ : -2147483648 ≤ (c a) + (c b) - 1 ∧ (c a) + (c b) - 1 ≤ 2147483647 := by omega
  refine z_i2l hx hb dL_filter_14 hrg_ ?_
  refine zw_last hx hb hK hF hI hKA hS (ko := (18, 0)) (zKf 18 rfl rfl) (v := (c a) + (c b) - 1) rfl 3 rfl dL_filter_15 (zY cI cW cP cJ ad (zUA (zUA (zUA ar (1, a) a2) (16, 0) r2) (17, 0) w2) (zU c a ((c a) + (c b) - 1)) np pp pn pg (vp_updL o 0 (zL ((c a) + (c b) - 1)))) (fun k hk hne => zY_out hk hne) rfl (fun H locs hF hI hKA hS => ?_)
  refine lv_goto (tgt := 31) hx hb dL_filter_16 (by decide) ?_
  refine z_iconst hx hb dL_filter_31 ?_
  refine W.widen (k := 2) (n := 70) (Nat.le_of_ble_eq_true rfl) (Nat.le_of_ble_eq_true rfl) ?_
  have hv_e : (c a) + (c b) - 1 = c a + c b - 1 := by rfl
  rw [hv_e] at hrg_
  have hv_0 : (vp_updL o 0 (zL ((c a) + (c b) - 1))) 0 = zL (c a + c b - 1) := (show vp_updL o 0 (zL ((c a) + (c b) - 1)) 0 = zL ((c a) + (c b) - 1) from if_pos rfl).trans (congrArg zL hv_e)
  have hv_1 : ∀ k, 0 ≤ k → k < c a + c b - 1 → (zUA (zUA (zUA ar (1, a) a2) (16, 0) r2) (17, 0) w2) (1, a) k = (zLn (zG ar c) c a b) k := by
    intro k h1 h2
    rw [show (zUA (zUA (zUA ar (1, a) a2) (16, 0) r2) (17, 0) w2) (1, a) = a2 from by simp [zUA]]
    exact hp_ k h1 h2
  exact zw_iret hx hb hr hlocks (0, vp_updL o 0 (zL ((c a) + (c b) - 1)), zU c a ((c a) + (c b) - 1), zUA (zUA (zUA ar (1, a) a2) (16, 0) r2) (17, 0) w2) rfl (zWp_mu hv_0 hrg_ rfl hv_1 (fun r hr_ => by simp [zUA, hr_]) (fun j => by simp [zUA])) hF hI hKA hS dL_filter_32

set_option maxHeartbeats 4000000 in
set_option maxRecDepth 100000 in
theorem w_filter_B (l : Launch) (hl9 : l.stackTraces = false) (D : va_G) (cI cW cP cJ : ClassId) (ad : zk → Nat) (ar : zk → Int → Int) (c : Int → Int) (np : Int) (pp pn : Int → Int) (pg : Int → Option Nat) (o : Nat → Int64) (a : Int) (b : Int) (t : Int) (bl : Int) (sv : Int) (hYI : zYI ad ar c np pp pn pg) (ha_bl : -2147483648 ≤ bl ∧ bl ≤ 2147483647) (hsv : 0 ≤ sv ∧ sv ≤ 1) (hra : 0 ≤ a ∧ a < 4) (hrb : 0 ≤ b ∧ b < 4) (hrt : 0 ≤ t ∧ t < 4) (hbl : 1 ≤ bl ∧ bl ≤ 32) (hwa : ∀ k, 0 ≤ k → k < c a → -99 ≤ ar (1, a) k ∧ ar (1, a) k ≤ 99) (hwb : ∀ k, 0 ≤ k → k < c b → -99 ≤ ar (1, b) k ∧ ar (1, b) k ≤ 99) (hz : c a ≠ 0) (hz2 : c b ≠ 0) (htt : c a + c b ≤ 65) (htb : b = t) (hab : ¬ a = b) : zWC l yL_filter wsL_filter D [(cI, .int), (cW, .object RX3), (cP, .object RX2), (cJ, .long)] (zYK np) (zY cI cW cP cJ ad ar c np pp pn pg o) [.ref (ad (4, 0)), .int (zI a), .int (zI b), .int (zI t), .int (zI bl), .int (zI sv), .ref (ad (18, 0))] (S := Int × (Nat → Int64) × (Int → Int) × (zk → Int → Int)) (zWp 0 (c a + c b - 1) True c ar t (c a + c b - 1) (zLn (zG ar c) c a b)) (fun u => some (.int (zI u.1))) (fun _ => zYK np) (fun u => zY cI cW cP cJ ad u.2.2.2 u.2.2.1 np pp pn pg u.2.1) := by
  obtain ⟨hnp, hcr, hgr, hpl⟩ := hYI
  have hca_ := hcr a hra
  have hcb_ := hcr b hrb
  have hct_ := hcr t hrt
  subst htb
  refine z_startW (cc := cL_filter) (maxL := 8) (ret := some .int) (hh := [(0, 16, 19, 13), (0, 16, 23, 15), (0, 16, 27, 17)]) (own := RL) (by decide) rfl rfl (Nat.le_of_ble_eq_true rfl) [(0, .ref (ad (4, 0))), (1, .int (zI a)), (2, .int (zI b)), (3, .int (zI b)), (4, .int (zI bl)), (5, .int (zI sv)), (6, .ref (ad (18, 0)))] rfl ?_
  intro pp_ ee s mm below meth cc A0 H ls hX hA0 htab hx hb hr hml hts hown hlocks hK hF hI hKA hS hA hl
  have CF : CallFix pp_ mm cc cL_filter 8 s ([.ref (ad (4, 0)), .int (zI a), .int (zI b), .int (zI b), .int (zI bl), .int (zI sv), .ref (ad (18, 0))] : List Value).toArray wsL_filter RL := ⟨hx, hb, hml, hown, hts⟩
  refine lv_aload hx hb dL_filter_0 (lv_at hl 6 rfl) ?_
  refine z_iconst hx hb dL_filter_2 ?_
  refine lv_aload_n hx hb dL_filter_3 rfl (lv_at hl 0 rfl) ?_
  refine lv_iload_n hx hb dL_filter_4 rfl (lv_at hl 1 rfl) ?_
  refine lv_iload_n hx hb dL_filter_5 rfl (lv_at hl 2 rfl) ?_
  refine lv_iload_n hx hb dL_filter_6 rfl (lv_at hl 3 rfl) ?_
  refine lv_iload hx hb dL_filter_7 (lv_at hl 4 rfl) ?_
  refine lv_iload hx hb dL_filter_9 (lv_at hl 5 rfl) ?_
  have hRc := zf_sub hF [(4, 0), (5, 0), (8, 0), (0, a), (1, a)] (List.forall_mem_cons.mpr ⟨zKf 4 rfl rfl, (List.forall_mem_cons.mpr ⟨zKf 5 rfl rfl, (List.forall_mem_cons.mpr ⟨zKf 8 rfl rfl, (List.forall_mem_cons.mpr ⟨zK0 hra, (List.forall_mem_cons.mpr ⟨zK1 hra, (fun _ h => absurd h List.not_mem_nil)⟩)⟩)⟩)⟩)⟩) (wc := [((ad (4, 0)), .inr (4, [.ref (ad (5, 0)), .ref (ad (6, 0)), .int (zI np), .ref (ad (7, 0)), .ref (ad (8, 0)), .ref (ad (9, 0)), .ref (ad (10, 0))])), ((ad (5, 0)), .inl (cW, 4, .inr (.inr (.inr (.inr (fun k : Nat => (zRg ad) (k : Int))))))), ((ad (8, 0)), .inr (0, [.ref (ad (16, 0)), .ref (ad (17, 0))])), ((ad (0, a)), .inr (2, [.ref (ad (1, a)), .int (zI (c a))])), ((ad (1, a)), .inl (cI, 64, .inl (zA (ar (1, a)))))]) rfl
  have hPc := zf_sub hF [(0, b), (1, b), (16, 0), (17, 0)] (List.forall_mem_cons.mpr ⟨zK0 hrb, (List.forall_mem_cons.mpr ⟨zK1 hrb, (List.forall_mem_cons.mpr ⟨zKf 16 rfl rfl, (List.forall_mem_cons.mpr ⟨zKf 17 rfl rfl, (fun _ h => absurd h List.not_mem_nil)⟩)⟩)⟩)⟩) (wc := [((ad (0, b)), .inr (2, [.ref (ad (1, b)), .int (zI (c b))])), ((ad (1, b)), .inl (cI, 64, .inl (zA (ar (1, b))))), ((ad (16, 0)), .inl (cI, 64, .inl (zA (ar (16, 0))))), ((ad (17, 0)), .inl (cI, 96, .inl (zA (ar (17, 0)))))]) rfl
  have hDc := zf_subD hI hKA [(0, b), (1, b), (16, 0), (17, 0)] (List.forall_mem_cons.mpr ⟨zK0 hrb, (List.forall_mem_cons.mpr ⟨zK1 hrb, (List.forall_mem_cons.mpr ⟨zKf 16 rfl rfl, (List.forall_mem_cons.mpr ⟨zKf 17 rfl rfl, (fun _ h => absurd h List.not_mem_nil)⟩)⟩)⟩)⟩) (by simp) (wc := [((ad (0, b)), .inr (2, [.ref (ad (1, b)), .int (zI (c b))])), ((ad (1, b)), .inl (cI, 64, .inl (zA (ar (1, b))))), ((ad (16, 0)), .inl (cI, 64, .inl (zA (ar (16, 0))))), ((ad (17, 0)), .inl (cI, 96, .inl (zA (ar (17, 0)))))]) rfl
  have hXc := zf_dis hI [(0, b), (1, b), (16, 0), (17, 0)] [(4, 0), (5, 0), (8, 0), (0, a), (1, a)] (List.forall_mem_cons.mpr ⟨zK0 hrb, (List.forall_mem_cons.mpr ⟨zK1 hrb, (List.forall_mem_cons.mpr ⟨zKf 16 rfl rfl, (List.forall_mem_cons.mpr ⟨zKf 17 rfl rfl, (fun _ h => absurd h List.not_mem_nil)⟩)⟩)⟩)⟩) (List.forall_mem_cons.mpr ⟨zKf 4 rfl rfl, (List.forall_mem_cons.mpr ⟨zKf 5 rfl rfl, (List.forall_mem_cons.mpr ⟨zKf 8 rfl rfl, (List.forall_mem_cons.mpr ⟨zK0 hra, (List.forall_mem_cons.mpr ⟨zK1 hra, (fun _ h => absurd h List.not_mem_nil)⟩)⟩)⟩)⟩)⟩) (by simp [hab]) (wc := [((ad (0, b)), .inr (2, [.ref (ad (1, b)), .int (zI (c b))])), ((ad (1, b)), .inl (cI, 64, .inl (zA (ar (1, b))))), ((ad (16, 0)), .inl (cI, 64, .inl (zA (ar (16, 0))))), ((ad (17, 0)), .inl (cI, 96, .inl (zA (ar (17, 0)))))]) (rc := [((ad (4, 0)), .inr (4, [.ref (ad (5, 0)), .ref (ad (6, 0)), .int (zI np), .ref (ad (7, 0)), .ref (ad (8, 0)), .ref (ad (9, 0)), .ref (ad (10, 0))])), ((ad (5, 0)), .inl (cW, 4, .inr (.inr (.inr (.inr (fun k : Nat => (zRg ad) (k : Int))))))), ((ad (8, 0)), .inr (0, [.ref (ad (16, 0)), .ref (ad (17, 0))])), ((ad (0, a)), .inr (2, [.ref (ad (1, a)), .int (zI (c a))])), ((ad (1, a)), .inl (cI, 64, .inl (zA (ar (1, a)))))]) rfl rfl
  refine zf_call (wc := [((ad (0, b)), .inr (2, [.ref (ad (1, b)), .int (zI (c b))])), ((ad (1, b)), .inl (cI, 64, .inl (zA (ar (1, b))))), ((ad (16, 0)), .inl (cI, 64, .inl (zA (ar (16, 0))))), ((ad (17, 0)), .inl (cI, 96, .inl (zA (ar (17, 0)))))]) (va_runV (As := [.int (zI a), .int (zI b), .int (zI b), .int (zI bl), .int (zI sv)]) (rest := [.int (zI 0), .ref (ad (18, 0))]) CF (c_X5_filter_B l D cI cW cP (ad (4, 0)) (ad (5, 0)) (ad (6, 0)) np (ad (7, 0)) (ad (8, 0)) (ad (9, 0)) (ad (10, 0)) (zRg ad) (ad (16, 0)) (ad (17, 0)) a b b bl sv (ad (0, a)) (ad (1, a)) (c a) (ar (1, a)) (ad (0, b)) (ad (1, b)) (c b) (ar (1, b)) (ar (16, 0)) (ar (17, 0)) (by first | omega | assumption) (by exact zRg_at hra) (by first | omega | assumption) (by exact zRg_at hrb) (by first | omega | assumption) (by exact zRg_at hrt) (by first | omega | assumption) (by first | omega | assumption) (by first | omega | assumption) (by first | omega | assumption) (by first | omega | assumption) (by first | omega | assumption) (by first | omega | assumption) H.size) (cwV 5 hts gL_filter_X5_filter rfl rfl rfl (by decide +kernel) ⟨Nat.le_of_ble_eq_true rfl, Nat.le_of_ble_eq_true rfl⟩) (z_preV (va_recv hK hRc (ci := 4) (q0 := 0) rfl rfl) hPc hDc hRc hXc (hK.sub (tys' := [(cI, .int), (cW, .object RX3), (cP, .object RX2)]) [0, 1, 2] rfl)) rfl rfl hl.1 rfl (lv_room (Nat.le_of_ble_eq_true rfl)) dL_filter_11 ⟨Nat.le_of_ble_eq_true rfl, Nat.le_of_ble_eq_true rfl⟩) hF hI hKA hS hA [(0, b), (1, b), (16, 0), (17, 0)] [(0, b), (1, b), (16, 0), (17, 0)] (List.forall_mem_cons.mpr ⟨zK0 hrb, (List.forall_mem_cons.mpr ⟨zK1 hrb, (List.forall_mem_cons.mpr ⟨zKf 16 rfl rfl, (List.forall_mem_cons.mpr ⟨zKf 17 rfl rfl, (fun _ h => absurd h List.not_mem_nil)⟩)⟩)⟩)⟩) rfl (fun _ => zYK np) (fun (a2, r2, w2) => zY cI cW cP cJ ad (zUA (zUA (zUA ar (1, b) a2) (16, 0) r2) (17, 0) w2) (zU c b ((c a) + (c b) - 1)) np pp pn pg o) (fun u hu => by
        obtain ⟨a2, r2, w2⟩ := u
        show ([(ad (0, b), .inr (2, [.ref (ad (1, b)), .int (zI ((zU c b ((c a) + (c b) - 1)) b))])), (ad (1, b), .inl (cI, 64, .inl (zA ((zUA (zUA (zUA ar (1, b) a2) (16, 0) r2) (17, 0) w2) (1, b))))), (ad (16, 0), .inl (cI, 64, .inl (zA ((zUA (zUA (zUA ar (1, b) a2) (16, 0) r2) (17, 0) w2) (16, 0))))), (ad (17, 0), .inl (cI, 96, .inl (zA ((zUA (zUA (zUA ar (1, b) a2) (16, 0) r2) (17, 0) w2) (17, 0)))))] : va_W) = _
        rw [show (zU c b ((c a) + (c b) - 1)) b = (c a) + (c b) - 1 from zU_s _ _ _, show (zUA (zUA (zUA ar (1, b) a2) (16, 0) r2) (17, 0) w2) (1, b) = a2 from by simp [zUA], show (zUA (zUA (zUA ar (1, b) a2) (16, 0) r2) (17, 0) w2) (16, 0) = r2 from by simp [zUA], show (zUA (zUA (zUA ar (1, b) a2) (16, 0) r2) (17, 0) w2) (17, 0) = w2 from by simp [zUA]]) (fun u hu k hk => by
        obtain ⟨a2, r2, w2⟩ := u
        by_cases hm : k ∈ [(0, b), (1, b), (16, 0), (17, 0)]
        · exact Or.inl hm
        · refine Or.inr ⟨hk, hm, ?_⟩
          simp only [List.mem_cons, List.not_mem_nil, or_false, not_or] at hm
          exact zY_ext (by simp [zUA, hm]) (fun h0 => zU_n _ _ (fun h1 => hm.1 (Prod.ext h0 h1)))) (cells' := 0) (slots' := 0) rfl rfl (fun u H locs hp_ hF hI hKA hS => ?_)
  obtain ⟨a2, r2, w2⟩ := u
  have hp_ : ∀ k, 0 ≤ k → k < (c a) + (c b) - 1 → a2 k = lin (ar (1, a)) (c a) (ar (1, b)) (c b)  k := hp_
  have hF : zFP D (zYK np) (zY cI cW cP cJ ad (zUA (zUA (zUA ar (1, b) a2) (16, 0) r2) (17, 0) w2) (zU c b ((c a) + (c b) - 1)) np pp pn pg o) H := hF
  have hI : zIn (zYK np) (zY cI cW cP cJ ad (zUA (zUA (zUA ar (1, b) a2) (16, 0) r2) (17, 0) w2) (zU c b ((c a) + (c b) - 1)) np pp pn pg o) := hI
  have hrg_ : -2147483648 ≤ (c a) + (c b) - 1 ∧ (c a) + (c b) - 1 ≤ 2147483647 := by omega
  refine z_i2l hx hb dL_filter_14 hrg_ ?_
  refine zw_last hx hb hK hF hI hKA hS (ko := (18, 0)) (zKf 18 rfl rfl) (v := (c a) + (c b) - 1) rfl 3 rfl dL_filter_15 (zY cI cW cP cJ ad (zUA (zUA (zUA ar (1, b) a2) (16, 0) r2) (17, 0) w2) (zU c b ((c a) + (c b) - 1)) np pp pn pg (vp_updL o 0 (zL ((c a) + (c b) - 1)))) (fun k hk hne => zY_out hk hne) rfl (fun H locs hF hI hKA hS => ?_)
  refine lv_goto (tgt := 31) hx hb dL_filter_16 (by decide) ?_
  refine z_iconst hx hb dL_filter_31 ?_
  refine W.widen (k := 2) (n := 70) (Nat.le_of_ble_eq_true rfl) (Nat.le_of_ble_eq_true rfl) ?_
  have hv_e : (c a) + (c b) - 1 = c a + c b - 1 := by rfl
  rw [hv_e] at hrg_
  have hv_0 : (vp_updL o 0 (zL ((c a) + (c b) - 1))) 0 = zL (c a + c b - 1) := (show vp_updL o 0 (zL ((c a) + (c b) - 1)) 0 = zL ((c a) + (c b) - 1) from if_pos rfl).trans (congrArg zL hv_e)
  have hv_1 : ∀ k, 0 ≤ k → k < c a + c b - 1 → (zUA (zUA (zUA ar (1, b) a2) (16, 0) r2) (17, 0) w2) (1, b) k = (zLn (zG ar c) c a b) k := by
    intro k h1 h2
    rw [show (zUA (zUA (zUA ar (1, b) a2) (16, 0) r2) (17, 0) w2) (1, b) = a2 from by simp [zUA]]
    exact hp_ k h1 h2
  exact zw_iret hx hb hr hlocks (0, vp_updL o 0 (zL ((c a) + (c b) - 1)), zU c b ((c a) + (c b) - 1), zUA (zUA (zUA ar (1, b) a2) (16, 0) r2) (17, 0) w2) rfl (zWp_mu hv_0 hrg_ rfl hv_1 (fun r hr_ => by simp [zUA, hr_]) (fun j => by simp [zUA])) hF hI hKA hS dL_filter_32

set_option maxHeartbeats 4000000 in
set_option maxRecDepth 100000 in
theorem w_filter_S (l : Launch) (hl9 : l.stackTraces = false) (D : va_G) (cI cW cP cJ : ClassId) (ad : zk → Nat) (ar : zk → Int → Int) (c : Int → Int) (np : Int) (pp pn : Int → Int) (pg : Int → Option Nat) (o : Nat → Int64) (a : Int) (b : Int) (t : Int) (bl : Int) (sv : Int) (hYI : zYI ad ar c np pp pn pg) (ha_bl : -2147483648 ≤ bl ∧ bl ≤ 2147483647) (hsv : 0 ≤ sv ∧ sv ≤ 1) (hra : 0 ≤ a ∧ a < 4) (hrb : 0 ≤ b ∧ b < 4) (hrt : 0 ≤ t ∧ t < 4) (hbl : 1 ≤ bl ∧ bl ≤ 32) (hwa : ∀ k, 0 ≤ k → k < c a → -99 ≤ ar (1, a) k ∧ ar (1, a) k ≤ 99) (hwb : ∀ k, 0 ≤ k → k < c b → -99 ≤ ar (1, b) k ∧ ar (1, b) k ≤ 99) (hz : c a ≠ 0) (hz2 : c b ≠ 0) (htt : c a + c b ≤ 65) (hta : a = t) (hba : a = b) : zWC l yL_filter wsL_filter D [(cI, .int), (cW, .object RX3), (cP, .object RX2), (cJ, .long)] (zYK np) (zY cI cW cP cJ ad ar c np pp pn pg o) [.ref (ad (4, 0)), .int (zI a), .int (zI b), .int (zI t), .int (zI bl), .int (zI sv), .ref (ad (18, 0))] (S := Int × (Nat → Int64) × (Int → Int) × (zk → Int → Int)) (zWp 0 (c a + c b - 1) True c ar t (c a + c b - 1) (zLn (zG ar c) c a b)) (fun u => some (.int (zI u.1))) (fun _ => zYK np) (fun u => zY cI cW cP cJ ad u.2.2.2 u.2.2.1 np pp pn pg u.2.1) := by
  obtain ⟨hnp, hcr, hgr, hpl⟩ := hYI
  have hca_ := hcr a hra
  have hcb_ := hcr b hrb
  have hct_ := hcr t hrt
  subst hta
  subst hba
  refine z_startW (cc := cL_filter) (maxL := 8) (ret := some .int) (hh := [(0, 16, 19, 13), (0, 16, 23, 15), (0, 16, 27, 17)]) (own := RL) (by decide) rfl rfl (Nat.le_of_ble_eq_true rfl) [(0, .ref (ad (4, 0))), (1, .int (zI a)), (2, .int (zI a)), (3, .int (zI a)), (4, .int (zI bl)), (5, .int (zI sv)), (6, .ref (ad (18, 0)))] rfl ?_
  intro pp_ ee s mm below meth cc A0 H ls hX hA0 htab hx hb hr hml hts hown hlocks hK hF hI hKA hS hA hl
  have CF : CallFix pp_ mm cc cL_filter 8 s ([.ref (ad (4, 0)), .int (zI a), .int (zI a), .int (zI a), .int (zI bl), .int (zI sv), .ref (ad (18, 0))] : List Value).toArray wsL_filter RL := ⟨hx, hb, hml, hown, hts⟩
  refine lv_aload hx hb dL_filter_0 (lv_at hl 6 rfl) ?_
  refine z_iconst hx hb dL_filter_2 ?_
  refine lv_aload_n hx hb dL_filter_3 rfl (lv_at hl 0 rfl) ?_
  refine lv_iload_n hx hb dL_filter_4 rfl (lv_at hl 1 rfl) ?_
  refine lv_iload_n hx hb dL_filter_5 rfl (lv_at hl 2 rfl) ?_
  refine lv_iload_n hx hb dL_filter_6 rfl (lv_at hl 3 rfl) ?_
  refine lv_iload hx hb dL_filter_7 (lv_at hl 4 rfl) ?_
  refine lv_iload hx hb dL_filter_9 (lv_at hl 5 rfl) ?_
  have hRc := zf_sub hF [(4, 0), (5, 0), (8, 0)] (List.forall_mem_cons.mpr ⟨zKf 4 rfl rfl, (List.forall_mem_cons.mpr ⟨zKf 5 rfl rfl, (List.forall_mem_cons.mpr ⟨zKf 8 rfl rfl, (fun _ h => absurd h List.not_mem_nil)⟩)⟩)⟩) (wc := [((ad (4, 0)), .inr (4, [.ref (ad (5, 0)), .ref (ad (6, 0)), .int (zI np), .ref (ad (7, 0)), .ref (ad (8, 0)), .ref (ad (9, 0)), .ref (ad (10, 0))])), ((ad (5, 0)), .inl (cW, 4, .inr (.inr (.inr (.inr (fun k : Nat => (zRg ad) (k : Int))))))), ((ad (8, 0)), .inr (0, [.ref (ad (16, 0)), .ref (ad (17, 0))]))]) rfl
  have hPc := zf_sub hF [(0, a), (1, a), (16, 0), (17, 0)] (List.forall_mem_cons.mpr ⟨zK0 hra, (List.forall_mem_cons.mpr ⟨zK1 hra, (List.forall_mem_cons.mpr ⟨zKf 16 rfl rfl, (List.forall_mem_cons.mpr ⟨zKf 17 rfl rfl, (fun _ h => absurd h List.not_mem_nil)⟩)⟩)⟩)⟩) (wc := [((ad (0, a)), .inr (2, [.ref (ad (1, a)), .int (zI (c a))])), ((ad (1, a)), .inl (cI, 64, .inl (zA (ar (1, a))))), ((ad (16, 0)), .inl (cI, 64, .inl (zA (ar (16, 0))))), ((ad (17, 0)), .inl (cI, 96, .inl (zA (ar (17, 0)))))]) rfl
  have hDc := zf_subD hI hKA [(0, a), (1, a), (16, 0), (17, 0)] (List.forall_mem_cons.mpr ⟨zK0 hra, (List.forall_mem_cons.mpr ⟨zK1 hra, (List.forall_mem_cons.mpr ⟨zKf 16 rfl rfl, (List.forall_mem_cons.mpr ⟨zKf 17 rfl rfl, (fun _ h => absurd h List.not_mem_nil)⟩)⟩)⟩)⟩) (by simp) (wc := [((ad (0, a)), .inr (2, [.ref (ad (1, a)), .int (zI (c a))])), ((ad (1, a)), .inl (cI, 64, .inl (zA (ar (1, a))))), ((ad (16, 0)), .inl (cI, 64, .inl (zA (ar (16, 0))))), ((ad (17, 0)), .inl (cI, 96, .inl (zA (ar (17, 0)))))]) rfl
  have hXc := zf_dis hI [(0, a), (1, a), (16, 0), (17, 0)] [(4, 0), (5, 0), (8, 0)] (List.forall_mem_cons.mpr ⟨zK0 hra, (List.forall_mem_cons.mpr ⟨zK1 hra, (List.forall_mem_cons.mpr ⟨zKf 16 rfl rfl, (List.forall_mem_cons.mpr ⟨zKf 17 rfl rfl, (fun _ h => absurd h List.not_mem_nil)⟩)⟩)⟩)⟩) (List.forall_mem_cons.mpr ⟨zKf 4 rfl rfl, (List.forall_mem_cons.mpr ⟨zKf 5 rfl rfl, (List.forall_mem_cons.mpr ⟨zKf 8 rfl rfl, (fun _ h => absurd h List.not_mem_nil)⟩)⟩)⟩) (by simp) (wc := [((ad (0, a)), .inr (2, [.ref (ad (1, a)), .int (zI (c a))])), ((ad (1, a)), .inl (cI, 64, .inl (zA (ar (1, a))))), ((ad (16, 0)), .inl (cI, 64, .inl (zA (ar (16, 0))))), ((ad (17, 0)), .inl (cI, 96, .inl (zA (ar (17, 0)))))]) (rc := [((ad (4, 0)), .inr (4, [.ref (ad (5, 0)), .ref (ad (6, 0)), .int (zI np), .ref (ad (7, 0)), .ref (ad (8, 0)), .ref (ad (9, 0)), .ref (ad (10, 0))])), ((ad (5, 0)), .inl (cW, 4, .inr (.inr (.inr (.inr (fun k : Nat => (zRg ad) (k : Int))))))), ((ad (8, 0)), .inr (0, [.ref (ad (16, 0)), .ref (ad (17, 0))]))]) rfl rfl
  refine zf_call (wc := [((ad (0, a)), .inr (2, [.ref (ad (1, a)), .int (zI (c a))])), ((ad (1, a)), .inl (cI, 64, .inl (zA (ar (1, a))))), ((ad (16, 0)), .inl (cI, 64, .inl (zA (ar (16, 0))))), ((ad (17, 0)), .inl (cI, 96, .inl (zA (ar (17, 0)))))]) (va_runV (As := [.int (zI a), .int (zI a), .int (zI a), .int (zI bl), .int (zI sv)]) (rest := [.int (zI 0), .ref (ad (18, 0))]) CF (c_X5_filter_S l D cI cW cP (ad (4, 0)) (ad (5, 0)) (ad (6, 0)) np (ad (7, 0)) (ad (8, 0)) (ad (9, 0)) (ad (10, 0)) (zRg ad) (ad (16, 0)) (ad (17, 0)) a a a bl sv (ad (0, a)) (ad (1, a)) (c a) (ar (1, a)) (ar (16, 0)) (ar (17, 0)) (by first | omega | assumption) (by exact zRg_at hra) (by first | omega | assumption) (by exact zRg_at hrb) (by first | omega | assumption) (by exact zRg_at hrt) (by first | omega | assumption) (by first | omega | assumption) (by first | omega | assumption) (by first | omega | assumption) (by first | omega | assumption) H.size) (cwV 5 hts gL_filter_X5_filter rfl rfl rfl (by decide +kernel) ⟨Nat.le_of_ble_eq_true rfl, Nat.le_of_ble_eq_true rfl⟩) (z_preV (va_recv hK hRc (ci := 4) (q0 := 0) rfl rfl) hPc hDc hRc hXc (hK.sub (tys' := [(cI, .int), (cW, .object RX3), (cP, .object RX2)]) [0, 1, 2] rfl)) rfl rfl hl.1 rfl (lv_room (Nat.le_of_ble_eq_true rfl)) dL_filter_11 ⟨Nat.le_of_ble_eq_true rfl, Nat.le_of_ble_eq_true rfl⟩) hF hI hKA hS hA [(0, a), (1, a), (16, 0), (17, 0)] [(0, a), (1, a), (16, 0), (17, 0)] (List.forall_mem_cons.mpr ⟨zK0 hra, (List.forall_mem_cons.mpr ⟨zK1 hra, (List.forall_mem_cons.mpr ⟨zKf 16 rfl rfl, (List.forall_mem_cons.mpr ⟨zKf 17 rfl rfl, (fun _ h => absurd h List.not_mem_nil)⟩)⟩)⟩)⟩) rfl (fun _ => zYK np) (fun (a2, r2, w2) => zY cI cW cP cJ ad (zUA (zUA (zUA ar (1, a) a2) (16, 0) r2) (17, 0) w2) (zU c a ((c a) + (c a) - 1)) np pp pn pg o) (fun u hu => by
        obtain ⟨a2, r2, w2⟩ := u
        show ([(ad (0, a), .inr (2, [.ref (ad (1, a)), .int (zI ((zU c a ((c a) + (c a) - 1)) a))])), (ad (1, a), .inl (cI, 64, .inl (zA ((zUA (zUA (zUA ar (1, a) a2) (16, 0) r2) (17, 0) w2) (1, a))))), (ad (16, 0), .inl (cI, 64, .inl (zA ((zUA (zUA (zUA ar (1, a) a2) (16, 0) r2) (17, 0) w2) (16, 0))))), (ad (17, 0), .inl (cI, 96, .inl (zA ((zUA (zUA (zUA ar (1, a) a2) (16, 0) r2) (17, 0) w2) (17, 0)))))] : va_W) = _
        rw [show (zU c a ((c a) + (c a) - 1)) a = (c a) + (c a) - 1 from zU_s _ _ _, show (zUA (zUA (zUA ar (1, a) a2) (16, 0) r2) (17, 0) w2) (1, a) = a2 from by simp [zUA], show (zUA (zUA (zUA ar (1, a) a2) (16, 0) r2) (17, 0) w2) (16, 0) = r2 from by simp [zUA], show (zUA (zUA (zUA ar (1, a) a2) (16, 0) r2) (17, 0) w2) (17, 0) = w2 from by simp [zUA]]) (fun u hu k hk => by
        obtain ⟨a2, r2, w2⟩ := u
        by_cases hm : k ∈ [(0, a), (1, a), (16, 0), (17, 0)]
        · exact Or.inl hm
        · refine Or.inr ⟨hk, hm, ?_⟩
          simp only [List.mem_cons, List.not_mem_nil, or_false, not_or] at hm
          exact zY_ext (by simp [zUA, hm]) (fun h0 => zU_n _ _ (fun h1 => hm.1 (Prod.ext h0 h1)))) (cells' := 0) (slots' := 0) rfl rfl (fun u H locs hp_ hF hI hKA hS => ?_)
  obtain ⟨a2, r2, w2⟩ := u
  have hp_ : ∀ k, 0 ≤ k → k < (c a) + (c a) - 1 → a2 k = lin (ar (1, a)) (c a) (ar (1, a)) (c a)  k := hp_
  have hF : zFP D (zYK np) (zY cI cW cP cJ ad (zUA (zUA (zUA ar (1, a) a2) (16, 0) r2) (17, 0) w2) (zU c a ((c a) + (c a) - 1)) np pp pn pg o) H := hF
  have hI : zIn (zYK np) (zY cI cW cP cJ ad (zUA (zUA (zUA ar (1, a) a2) (16, 0) r2) (17, 0) w2) (zU c a ((c a) + (c a) - 1)) np pp pn pg o) := hI
  have hrg_ : -2147483648 ≤ (c a) + (c a) - 1 ∧ (c a) + (c a) - 1 ≤ 2147483647 := by omega
  refine z_i2l hx hb dL_filter_14 hrg_ ?_
  refine zw_last hx hb hK hF hI hKA hS (ko := (18, 0)) (zKf 18 rfl rfl) (v := (c a) + (c a) - 1) rfl 3 rfl dL_filter_15 (zY cI cW cP cJ ad (zUA (zUA (zUA ar (1, a) a2) (16, 0) r2) (17, 0) w2) (zU c a ((c a) + (c a) - 1)) np pp pn pg (vp_updL o 0 (zL ((c a) + (c a) - 1)))) (fun k hk hne => zY_out hk hne) rfl (fun H locs hF hI hKA hS => ?_)
  refine lv_goto (tgt := 31) hx hb dL_filter_16 (by decide) ?_
  refine z_iconst hx hb dL_filter_31 ?_
  refine W.widen (k := 2) (n := 70) (Nat.le_of_ble_eq_true rfl) (Nat.le_of_ble_eq_true rfl) ?_
  have hv_e : (c a) + (c a) - 1 = c a + c a - 1 := by rfl
  rw [hv_e] at hrg_
  have hv_0 : (vp_updL o 0 (zL ((c a) + (c a) - 1))) 0 = zL (c a + c a - 1) := (show vp_updL o 0 (zL ((c a) + (c a) - 1)) 0 = zL ((c a) + (c a) - 1) from if_pos rfl).trans (congrArg zL hv_e)
  have hv_1 : ∀ k, 0 ≤ k → k < c a + c a - 1 → (zUA (zUA (zUA ar (1, a) a2) (16, 0) r2) (17, 0) w2) (1, a) k = (zLn (zG ar c) c a a) k := by
    intro k h1 h2
    rw [show (zUA (zUA (zUA ar (1, a) a2) (16, 0) r2) (17, 0) w2) (1, a) = a2 from by simp [zUA]]
    exact hp_ k h1 h2
  exact zw_iret hx hb hr hlocks (0, vp_updL o 0 (zL ((c a) + (c a) - 1)), zU c a ((c a) + (c a) - 1), zUA (zUA (zUA ar (1, a) a2) (16, 0) r2) (17, 0) w2) rfl (zWp_mu hv_0 hrg_ rfl hv_1 (fun r hr_ => by simp [zUA, hr_]) (fun j => by simp [zUA])) hF hI hKA hS dL_filter_32

set_option maxHeartbeats 4000000 in
set_option maxRecDepth 100000 in
theorem w_multiply_e1a (l : Launch) (hl9 : l.stackTraces = false) (D : va_G) (cI cW cP cJ : ClassId) (ad : zk → Nat) (ar : zk → Int → Int) (c : Int → Int) (np : Int) (pp pn : Int → Int) (pg : Int → Option Nat) (o : Nat → Int64) (a : Int) (b : Int) (t : Int) (hYI : zYI ad ar c np pp pn pg) (ha_a : -2147483648 ≤ a ∧ a ≤ 2147483647) (ha_b : -2147483648 ≤ b ∧ b ≤ 2147483647) (ha_t : -2147483648 ≤ t ∧ t ≤ 2147483647) (hba : ¬ (0 ≤ a ∧ a < 4)) : zWC l yL_multiply wsL_multiply D [(cI, .int), (cW, .object RX3), (cP, .object RX2), (cJ, .long)] (zYK np) (zY cI cW cP cJ ad ar c np pp pn pg o) [.ref (ad (4, 0)), .int (zI a), .int (zI b), .int (zI t), .ref (ad (18, 0))] (S := Int × (Nat → Int64) × (Int → Int) × (zk → Int → Int)) (zWp 1 (ndI (zLn (zG ar c) c a b) (c a + c b)) True c ar t (ndI (zLn (zG ar c) c a b) (c a + c b)) (dgI (zLn (zG ar c) c a b))) (fun u => some (.int (zI u.1))) (fun _ => zYK np) (fun u => zY cI cW cP cJ ad u.2.2.2 u.2.2.1 np pp pn pg u.2.1) := by
  obtain ⟨hnp, hcr, hgr, hpl⟩ := hYI
  refine z_startW (cc := cL_multiply) (maxL := 6) (ret := some .int) (hh := [(0, 12, 15, 13), (0, 12, 19, 15), (0, 12, 23, 17)]) (own := RL) (by decide) rfl rfl (Nat.le_of_ble_eq_true rfl) [(0, .ref (ad (4, 0))), (1, .int (zI a)), (2, .int (zI b)), (3, .int (zI t)), (4, .ref (ad (18, 0)))] rfl ?_
  intro pp_ ee s mm below meth cc A0 H ls hX hA0 htab hx hb hr hml hts hown hlocks hK hF hI hKA hS hA hl
  have CF : CallFix pp_ mm cc cL_multiply 6 s ([.ref (ad (4, 0)), .int (zI a), .int (zI b), .int (zI t), .ref (ad (18, 0))] : List Value).toArray wsL_multiply RL := ⟨hx, hb, hml, hown, hts⟩
  refine lv_aload hx hb dL_multiply_0 (lv_at hl 4 rfl) ?_
  refine z_iconst hx hb dL_multiply_2 ?_
  refine lv_aload_n hx hb dL_multiply_3 rfl (lv_at hl 0 rfl) ?_
  refine lv_iload_n hx hb dL_multiply_4 rfl (lv_at hl 1 rfl) ?_
  refine lv_iload_n hx hb dL_multiply_5 rfl (lv_at hl 2 rfl) ?_
  refine lv_iload_n hx hb dL_multiply_6 rfl (lv_at hl 3 rfl) ?_
  have hRc := zf_sub hF [(4, 0)] (List.forall_mem_cons.mpr ⟨zKf 4 rfl rfl, (fun _ h => absurd h List.not_mem_nil)⟩) (wc := [((ad (4, 0)), .inr (4, [.ref (ad (5, 0)), .ref (ad (6, 0)), .int (zI np), .ref (ad (7, 0)), .ref (ad (8, 0)), .ref (ad (9, 0)), .ref (ad (10, 0))]))]) rfl
  refine zw_catch (E := "java/lang/IndexOutOfBoundsException") (name := "java/lang/IndexOutOfBoundsException") (own := RL) (vx_runV (As := [.int (zI a), .int (zI b), .int (zI t)]) (rest := [.int (zI 0), .ref (ad (18, 0))]) CF (x_X5_multiply_1a l hl9 D cI cW cP (ad (4, 0)) (ad (5, 0)) (ad (6, 0)) np (ad (7, 0)) (ad (8, 0)) (ad (9, 0)) (ad (10, 0)) a b t (by first | omega | assumption) (by first | omega | assumption) A0 H.size) (cwV 3 hts gL_multiply_X5_multiply rfl rfl rfl (by decide +kernel) ⟨Nat.le_of_ble_eq_true rfl, Nat.le_of_ble_eq_true rfl⟩) (zw_preTV (va_recv hK hRc (ci := 4) (q0 := 0) rfl rfl) hX hA0 hA hS hRc (hK.sub (tys' := [(cI, .int), (cW, .object RX3), (cP, .object RX2)]) [0, 1, 2] rfl)) rfl rfl hl.1 rfl (lv_room (Nat.le_of_ble_eq_true rfl)) dL_multiply_7 ⟨Nat.le_of_ble_eq_true rfl, Nat.le_of_ble_eq_true rfl⟩) hF hS hA hown [] ⟨0, 12, 15, 13⟩ [⟨0, 12, 19, 15⟩, ⟨0, 12, 23, 17⟩] (htab.trans rfl) (fun _ h => absurd h List.not_mem_nil) rfl (by decide) (hts (.classLink RL 13 "java/lang/IndexOutOfBoundsException") (by decide +kernel)) (z_cast (hts (.initialized "java/lang/IndexOutOfBoundsException") (by decide +kernel))) (fun q H locs hF hS => ?_)
  refine lv_astore (lv' := [(5, .ref q), (0, .ref (ad (4, 0))), (1, .int (zI a)), (2, .int (zI b)), (3, .int (zI t)), (4, .ref (ad (18, 0)))]) hx hb dL_multiply_15 hl (by decide) rfl (fun ls hl => ?_)
  have hl := lv_sub hl [1, 2, 3, 4, 5, 0] rfl
  have hl : lv_has ls 6 [(0, .ref (ad (4, 0))), (1, .int (zI a)), (2, .int (zI b)), (3, .int (zI t)), (4, .ref (ad (18, 0))), (5, .ref q)] := hl
  refine z_iconst hx hb dL_multiply_17 ?_
  refine W.widen (k := 2) (n := 70) (Nat.le_of_ble_eq_true rfl) (Nat.le_of_ble_eq_true rfl) ?_
  exact zw_iret hx hb hr hlocks (1, o, c, ar) rfl (zWp_err (by decide)) hF hI hKA hS dL_multiply_18

set_option maxHeartbeats 4000000 in
set_option maxRecDepth 100000 in
theorem w_multiply_e1b (l : Launch) (hl9 : l.stackTraces = false) (D : va_G) (cI cW cP cJ : ClassId) (ad : zk → Nat) (ar : zk → Int → Int) (c : Int → Int) (np : Int) (pp pn : Int → Int) (pg : Int → Option Nat) (o : Nat → Int64) (a : Int) (b : Int) (t : Int) (hYI : zYI ad ar c np pp pn pg) (ha_b : -2147483648 ≤ b ∧ b ≤ 2147483647) (ha_t : -2147483648 ≤ t ∧ t ≤ 2147483647) (hra : 0 ≤ a ∧ a < 4) (hbb : ¬ (0 ≤ b ∧ b < 4)) : zWC l yL_multiply wsL_multiply D [(cI, .int), (cW, .object RX3), (cP, .object RX2), (cJ, .long)] (zYK np) (zY cI cW cP cJ ad ar c np pp pn pg o) [.ref (ad (4, 0)), .int (zI a), .int (zI b), .int (zI t), .ref (ad (18, 0))] (S := Int × (Nat → Int64) × (Int → Int) × (zk → Int → Int)) (zWp 1 (ndI (zLn (zG ar c) c a b) (c a + c b)) True c ar t (ndI (zLn (zG ar c) c a b) (c a + c b)) (dgI (zLn (zG ar c) c a b))) (fun u => some (.int (zI u.1))) (fun _ => zYK np) (fun u => zY cI cW cP cJ ad u.2.2.2 u.2.2.1 np pp pn pg u.2.1) := by
  obtain ⟨hnp, hcr, hgr, hpl⟩ := hYI
  have hca_ := hcr a hra
  refine z_startW (cc := cL_multiply) (maxL := 6) (ret := some .int) (hh := [(0, 12, 15, 13), (0, 12, 19, 15), (0, 12, 23, 17)]) (own := RL) (by decide) rfl rfl (Nat.le_of_ble_eq_true rfl) [(0, .ref (ad (4, 0))), (1, .int (zI a)), (2, .int (zI b)), (3, .int (zI t)), (4, .ref (ad (18, 0)))] rfl ?_
  intro pp_ ee s mm below meth cc A0 H ls hX hA0 htab hx hb hr hml hts hown hlocks hK hF hI hKA hS hA hl
  have CF : CallFix pp_ mm cc cL_multiply 6 s ([.ref (ad (4, 0)), .int (zI a), .int (zI b), .int (zI t), .ref (ad (18, 0))] : List Value).toArray wsL_multiply RL := ⟨hx, hb, hml, hown, hts⟩
  refine lv_aload hx hb dL_multiply_0 (lv_at hl 4 rfl) ?_
  refine z_iconst hx hb dL_multiply_2 ?_
  refine lv_aload_n hx hb dL_multiply_3 rfl (lv_at hl 0 rfl) ?_
  refine lv_iload_n hx hb dL_multiply_4 rfl (lv_at hl 1 rfl) ?_
  refine lv_iload_n hx hb dL_multiply_5 rfl (lv_at hl 2 rfl) ?_
  refine lv_iload_n hx hb dL_multiply_6 rfl (lv_at hl 3 rfl) ?_
  have hRc := zf_sub hF [(4, 0), (5, 0)] (List.forall_mem_cons.mpr ⟨zKf 4 rfl rfl, (List.forall_mem_cons.mpr ⟨zKf 5 rfl rfl, (fun _ h => absurd h List.not_mem_nil)⟩)⟩) (wc := [((ad (4, 0)), .inr (4, [.ref (ad (5, 0)), .ref (ad (6, 0)), .int (zI np), .ref (ad (7, 0)), .ref (ad (8, 0)), .ref (ad (9, 0)), .ref (ad (10, 0))])), ((ad (5, 0)), .inl (cW, 4, .inr (.inr (.inr (.inr (fun k : Nat => (zRg ad) (k : Int)))))))]) rfl
  refine zw_catch (E := "java/lang/IndexOutOfBoundsException") (name := "java/lang/IndexOutOfBoundsException") (own := RL) (vx_runV (As := [.int (zI a), .int (zI b), .int (zI t)]) (rest := [.int (zI 0), .ref (ad (18, 0))]) CF (x_X5_multiply_1b l hl9 D cI cW cP (ad (4, 0)) (ad (5, 0)) (ad (6, 0)) np (ad (7, 0)) (ad (8, 0)) (ad (9, 0)) (ad (10, 0)) (zRg ad) a b t (ad (0, a)) (by first | omega | assumption) (by exact zRg_at hra) (by first | omega | assumption) (by first | omega | assumption) A0 H.size) (cwV 3 hts gL_multiply_X5_multiply rfl rfl rfl (by decide +kernel) ⟨Nat.le_of_ble_eq_true rfl, Nat.le_of_ble_eq_true rfl⟩) (zw_preTV (va_recv hK hRc (ci := 4) (q0 := 0) rfl rfl) hX hA0 hA hS hRc (hK.sub (tys' := [(cI, .int), (cW, .object RX3), (cP, .object RX2)]) [0, 1, 2] rfl)) rfl rfl hl.1 rfl (lv_room (Nat.le_of_ble_eq_true rfl)) dL_multiply_7 ⟨Nat.le_of_ble_eq_true rfl, Nat.le_of_ble_eq_true rfl⟩) hF hS hA hown [] ⟨0, 12, 15, 13⟩ [⟨0, 12, 19, 15⟩, ⟨0, 12, 23, 17⟩] (htab.trans rfl) (fun _ h => absurd h List.not_mem_nil) rfl (by decide) (hts (.classLink RL 13 "java/lang/IndexOutOfBoundsException") (by decide +kernel)) (z_cast (hts (.initialized "java/lang/IndexOutOfBoundsException") (by decide +kernel))) (fun q H locs hF hS => ?_)
  refine lv_astore (lv' := [(5, .ref q), (0, .ref (ad (4, 0))), (1, .int (zI a)), (2, .int (zI b)), (3, .int (zI t)), (4, .ref (ad (18, 0)))]) hx hb dL_multiply_15 hl (by decide) rfl (fun ls hl => ?_)
  have hl := lv_sub hl [1, 2, 3, 4, 5, 0] rfl
  have hl : lv_has ls 6 [(0, .ref (ad (4, 0))), (1, .int (zI a)), (2, .int (zI b)), (3, .int (zI t)), (4, .ref (ad (18, 0))), (5, .ref q)] := hl
  refine z_iconst hx hb dL_multiply_17 ?_
  refine W.widen (k := 2) (n := 70) (Nat.le_of_ble_eq_true rfl) (Nat.le_of_ble_eq_true rfl) ?_
  exact zw_iret hx hb hr hlocks (1, o, c, ar) rfl (zWp_err (by decide)) hF hI hKA hS dL_multiply_18

set_option maxHeartbeats 4000000 in
set_option maxRecDepth 100000 in
theorem w_multiply_e1c (l : Launch) (hl9 : l.stackTraces = false) (D : va_G) (cI cW cP cJ : ClassId) (ad : zk → Nat) (ar : zk → Int → Int) (c : Int → Int) (np : Int) (pp pn : Int → Int) (pg : Int → Option Nat) (o : Nat → Int64) (a : Int) (b : Int) (t : Int) (hYI : zYI ad ar c np pp pn pg) (ha_t : -2147483648 ≤ t ∧ t ≤ 2147483647) (hra : 0 ≤ a ∧ a < 4) (hrb : 0 ≤ b ∧ b < 4) (hbt : ¬ (0 ≤ t ∧ t < 4)) : zWC l yL_multiply wsL_multiply D [(cI, .int), (cW, .object RX3), (cP, .object RX2), (cJ, .long)] (zYK np) (zY cI cW cP cJ ad ar c np pp pn pg o) [.ref (ad (4, 0)), .int (zI a), .int (zI b), .int (zI t), .ref (ad (18, 0))] (S := Int × (Nat → Int64) × (Int → Int) × (zk → Int → Int)) (zWp 1 (ndI (zLn (zG ar c) c a b) (c a + c b)) True c ar t (ndI (zLn (zG ar c) c a b) (c a + c b)) (dgI (zLn (zG ar c) c a b))) (fun u => some (.int (zI u.1))) (fun _ => zYK np) (fun u => zY cI cW cP cJ ad u.2.2.2 u.2.2.1 np pp pn pg u.2.1) := by
  obtain ⟨hnp, hcr, hgr, hpl⟩ := hYI
  have hca_ := hcr a hra
  have hcb_ := hcr b hrb
  refine z_startW (cc := cL_multiply) (maxL := 6) (ret := some .int) (hh := [(0, 12, 15, 13), (0, 12, 19, 15), (0, 12, 23, 17)]) (own := RL) (by decide) rfl rfl (Nat.le_of_ble_eq_true rfl) [(0, .ref (ad (4, 0))), (1, .int (zI a)), (2, .int (zI b)), (3, .int (zI t)), (4, .ref (ad (18, 0)))] rfl ?_
  intro pp_ ee s mm below meth cc A0 H ls hX hA0 htab hx hb hr hml hts hown hlocks hK hF hI hKA hS hA hl
  have CF : CallFix pp_ mm cc cL_multiply 6 s ([.ref (ad (4, 0)), .int (zI a), .int (zI b), .int (zI t), .ref (ad (18, 0))] : List Value).toArray wsL_multiply RL := ⟨hx, hb, hml, hown, hts⟩
  refine lv_aload hx hb dL_multiply_0 (lv_at hl 4 rfl) ?_
  refine z_iconst hx hb dL_multiply_2 ?_
  refine lv_aload_n hx hb dL_multiply_3 rfl (lv_at hl 0 rfl) ?_
  refine lv_iload_n hx hb dL_multiply_4 rfl (lv_at hl 1 rfl) ?_
  refine lv_iload_n hx hb dL_multiply_5 rfl (lv_at hl 2 rfl) ?_
  refine lv_iload_n hx hb dL_multiply_6 rfl (lv_at hl 3 rfl) ?_
  have hRc := zf_sub hF [(4, 0), (5, 0)] (List.forall_mem_cons.mpr ⟨zKf 4 rfl rfl, (List.forall_mem_cons.mpr ⟨zKf 5 rfl rfl, (fun _ h => absurd h List.not_mem_nil)⟩)⟩) (wc := [((ad (4, 0)), .inr (4, [.ref (ad (5, 0)), .ref (ad (6, 0)), .int (zI np), .ref (ad (7, 0)), .ref (ad (8, 0)), .ref (ad (9, 0)), .ref (ad (10, 0))])), ((ad (5, 0)), .inl (cW, 4, .inr (.inr (.inr (.inr (fun k : Nat => (zRg ad) (k : Int)))))))]) rfl
  refine zw_catch (E := "java/lang/IndexOutOfBoundsException") (name := "java/lang/IndexOutOfBoundsException") (own := RL) (vx_runV (As := [.int (zI a), .int (zI b), .int (zI t)]) (rest := [.int (zI 0), .ref (ad (18, 0))]) CF (x_X5_multiply_1c l hl9 D cI cW cP (ad (4, 0)) (ad (5, 0)) (ad (6, 0)) np (ad (7, 0)) (ad (8, 0)) (ad (9, 0)) (ad (10, 0)) (zRg ad) a b t (ad (0, a)) (ad (0, b)) (by first | omega | assumption) (by exact zRg_at hra) (by first | omega | assumption) (by exact zRg_at hrb) (by first | omega | assumption) (by first | omega | assumption) A0 H.size) (cwV 3 hts gL_multiply_X5_multiply rfl rfl rfl (by decide +kernel) ⟨Nat.le_of_ble_eq_true rfl, Nat.le_of_ble_eq_true rfl⟩) (zw_preTV (va_recv hK hRc (ci := 4) (q0 := 0) rfl rfl) hX hA0 hA hS hRc (hK.sub (tys' := [(cI, .int), (cW, .object RX3), (cP, .object RX2)]) [0, 1, 2] rfl)) rfl rfl hl.1 rfl (lv_room (Nat.le_of_ble_eq_true rfl)) dL_multiply_7 ⟨Nat.le_of_ble_eq_true rfl, Nat.le_of_ble_eq_true rfl⟩) hF hS hA hown [] ⟨0, 12, 15, 13⟩ [⟨0, 12, 19, 15⟩, ⟨0, 12, 23, 17⟩] (htab.trans rfl) (fun _ h => absurd h List.not_mem_nil) rfl (by decide) (hts (.classLink RL 13 "java/lang/IndexOutOfBoundsException") (by decide +kernel)) (z_cast (hts (.initialized "java/lang/IndexOutOfBoundsException") (by decide +kernel))) (fun q H locs hF hS => ?_)
  refine lv_astore (lv' := [(5, .ref q), (0, .ref (ad (4, 0))), (1, .int (zI a)), (2, .int (zI b)), (3, .int (zI t)), (4, .ref (ad (18, 0)))]) hx hb dL_multiply_15 hl (by decide) rfl (fun ls hl => ?_)
  have hl := lv_sub hl [1, 2, 3, 4, 5, 0] rfl
  have hl : lv_has ls 6 [(0, .ref (ad (4, 0))), (1, .int (zI a)), (2, .int (zI b)), (3, .int (zI t)), (4, .ref (ad (18, 0))), (5, .ref q)] := hl
  refine z_iconst hx hb dL_multiply_17 ?_
  refine W.widen (k := 2) (n := 70) (Nat.le_of_ble_eq_true rfl) (Nat.le_of_ble_eq_true rfl) ?_
  exact zw_iret hx hb hr hlocks (1, o, c, ar) rfl (zWp_err (by decide)) hF hI hKA hS dL_multiply_18

set_option maxHeartbeats 4000000 in
set_option maxRecDepth 100000 in
theorem w_multiply_e2a (l : Launch) (hl9 : l.stackTraces = false) (D : va_G) (cI cW cP cJ : ClassId) (ad : zk → Nat) (ar : zk → Int → Int) (c : Int → Int) (np : Int) (pp pn : Int → Int) (pg : Int → Option Nat) (o : Nat → Int64) (a : Int) (b : Int) (t : Int) (hYI : zYI ad ar c np pp pn pg) (hra : 0 ≤ a ∧ a < 4) (hrb : 0 ≤ b ∧ b < 4) (hrt : 0 ≤ t ∧ t < 4) (hwa : ¬ (∀ k, 0 ≤ k → k < c a → 0 ≤ ar (1, a) k ∧ ar (1, a) k ≤ 9)) : zWC l yL_multiply wsL_multiply D [(cI, .int), (cW, .object RX3), (cP, .object RX2), (cJ, .long)] (zYK np) (zY cI cW cP cJ ad ar c np pp pn pg o) [.ref (ad (4, 0)), .int (zI a), .int (zI b), .int (zI t), .ref (ad (18, 0))] (S := Int × (Nat → Int64) × (Int → Int) × (zk → Int → Int)) (zWp 2 (ndI (zLn (zG ar c) c a b) (c a + c b)) True c ar t (ndI (zLn (zG ar c) c a b) (c a + c b)) (dgI (zLn (zG ar c) c a b))) (fun u => some (.int (zI u.1))) (fun _ => zYK np) (fun u => zY cI cW cP cJ ad u.2.2.2 u.2.2.1 np pp pn pg u.2.1) := by
  obtain ⟨hnp, hcr, hgr, hpl⟩ := hYI
  have hca_ := hcr a hra
  have hcb_ := hcr b hrb
  have hct_ := hcr t hrt
  refine z_startW (cc := cL_multiply) (maxL := 6) (ret := some .int) (hh := [(0, 12, 15, 13), (0, 12, 19, 15), (0, 12, 23, 17)]) (own := RL) (by decide) rfl rfl (Nat.le_of_ble_eq_true rfl) [(0, .ref (ad (4, 0))), (1, .int (zI a)), (2, .int (zI b)), (3, .int (zI t)), (4, .ref (ad (18, 0)))] rfl ?_
  intro pp_ ee s mm below meth cc A0 H ls hX hA0 htab hx hb hr hml hts hown hlocks hK hF hI hKA hS hA hl
  have CF : CallFix pp_ mm cc cL_multiply 6 s ([.ref (ad (4, 0)), .int (zI a), .int (zI b), .int (zI t), .ref (ad (18, 0))] : List Value).toArray wsL_multiply RL := ⟨hx, hb, hml, hown, hts⟩
  refine lv_aload hx hb dL_multiply_0 (lv_at hl 4 rfl) ?_
  refine z_iconst hx hb dL_multiply_2 ?_
  refine lv_aload_n hx hb dL_multiply_3 rfl (lv_at hl 0 rfl) ?_
  refine lv_iload_n hx hb dL_multiply_4 rfl (lv_at hl 1 rfl) ?_
  refine lv_iload_n hx hb dL_multiply_5 rfl (lv_at hl 2 rfl) ?_
  refine lv_iload_n hx hb dL_multiply_6 rfl (lv_at hl 3 rfl) ?_
  have hRc := zf_sub hF [(4, 0), (5, 0), (0, a), (1, a)] (List.forall_mem_cons.mpr ⟨zKf 4 rfl rfl, (List.forall_mem_cons.mpr ⟨zKf 5 rfl rfl, (List.forall_mem_cons.mpr ⟨zK0 hra, (List.forall_mem_cons.mpr ⟨zK1 hra, (fun _ h => absurd h List.not_mem_nil)⟩)⟩)⟩)⟩) (wc := [((ad (4, 0)), .inr (4, [.ref (ad (5, 0)), .ref (ad (6, 0)), .int (zI np), .ref (ad (7, 0)), .ref (ad (8, 0)), .ref (ad (9, 0)), .ref (ad (10, 0))])), ((ad (5, 0)), .inl (cW, 4, .inr (.inr (.inr (.inr (fun k : Nat => (zRg ad) (k : Int))))))), ((ad (0, a)), .inr (2, [.ref (ad (1, a)), .int (zI (c a))])), ((ad (1, a)), .inl (cI, 64, .inl (zA (ar (1, a)))))]) rfl
  refine zw_catch (E := "java/lang/IllegalArgumentException") (name := "java/lang/IllegalArgumentException") (own := RL) (vx_runV (As := [.int (zI a), .int (zI b), .int (zI t)]) (rest := [.int (zI 0), .ref (ad (18, 0))]) CF (x_X5_multiply_2a l hl9 D cI cW cP (ad (4, 0)) (ad (5, 0)) (ad (6, 0)) np (ad (7, 0)) (ad (8, 0)) (ad (9, 0)) (ad (10, 0)) (zRg ad) a b t (ad (0, a)) (ad (1, a)) (c a) (ar (1, a)) (ad (0, b)) (ad (0, t)) (by first | omega | assumption) (by exact zRg_at hra) (by first | omega | assumption) (by exact zRg_at hrb) (by first | omega | assumption) (by exact zRg_at hrt) (by first | omega | assumption) (by exact hgr a hra) (by first | omega | assumption) A0 H.size) (cwV 3 hts gL_multiply_X5_multiply rfl rfl rfl (by decide +kernel) ⟨Nat.le_of_ble_eq_true rfl, Nat.le_of_ble_eq_true rfl⟩) (zw_preTV (va_recv hK hRc (ci := 4) (q0 := 0) rfl rfl) hX hA0 hA hS hRc (hK.sub (tys' := [(cI, .int), (cW, .object RX3), (cP, .object RX2)]) [0, 1, 2] rfl)) rfl rfl hl.1 rfl (lv_room (Nat.le_of_ble_eq_true rfl)) dL_multiply_7 ⟨Nat.le_of_ble_eq_true rfl, Nat.le_of_ble_eq_true rfl⟩) hF hS hA hown [⟨0, 12, 15, 13⟩] ⟨0, 12, 19, 15⟩ [⟨0, 12, 23, 17⟩] (htab.trans rfl) (List.forall_mem_cons.mpr ⟨Or.inr ⟨by decide, _, hts (.classLink RL 13 "java/lang/IndexOutOfBoundsException") (by decide +kernel), hX.2.2.2.1⟩, (fun _ h => absurd h List.not_mem_nil)⟩) rfl (by decide) (hts (.classLink RL 15 "java/lang/IllegalArgumentException") (by decide +kernel)) (z_cast (hts (.initialized "java/lang/IllegalArgumentException") (by decide +kernel))) (fun q H locs hF hS => ?_)
  refine lv_astore (lv' := [(5, .ref q), (0, .ref (ad (4, 0))), (1, .int (zI a)), (2, .int (zI b)), (3, .int (zI t)), (4, .ref (ad (18, 0)))]) hx hb dL_multiply_19 hl (by decide) rfl (fun ls hl => ?_)
  have hl := lv_sub hl [1, 2, 3, 4, 5, 0] rfl
  have hl : lv_has ls 6 [(0, .ref (ad (4, 0))), (1, .int (zI a)), (2, .int (zI b)), (3, .int (zI t)), (4, .ref (ad (18, 0))), (5, .ref q)] := hl
  refine z_iconst hx hb dL_multiply_21 ?_
  refine W.widen (k := 2) (n := 70) (Nat.le_of_ble_eq_true rfl) (Nat.le_of_ble_eq_true rfl) ?_
  exact zw_iret hx hb hr hlocks (2, o, c, ar) rfl (zWp_err (by decide)) hF hI hKA hS dL_multiply_22

set_option maxHeartbeats 4000000 in
set_option maxRecDepth 100000 in
theorem w_multiply_e2b (l : Launch) (hl9 : l.stackTraces = false) (D : va_G) (cI cW cP cJ : ClassId) (ad : zk → Nat) (ar : zk → Int → Int) (c : Int → Int) (np : Int) (pp pn : Int → Int) (pg : Int → Option Nat) (o : Nat → Int64) (a : Int) (b : Int) (t : Int) (hYI : zYI ad ar c np pp pn pg) (hra : 0 ≤ a ∧ a < 4) (hrb : 0 ≤ b ∧ b < 4) (hrt : 0 ≤ t ∧ t < 4) (hwa : ∀ k, 0 ≤ k → k < c a → 0 ≤ ar (1, a) k ∧ ar (1, a) k ≤ 9) (hwb : ¬ (∀ k, 0 ≤ k → k < c b → 0 ≤ ar (1, b) k ∧ ar (1, b) k ≤ 9)) : zWC l yL_multiply wsL_multiply D [(cI, .int), (cW, .object RX3), (cP, .object RX2), (cJ, .long)] (zYK np) (zY cI cW cP cJ ad ar c np pp pn pg o) [.ref (ad (4, 0)), .int (zI a), .int (zI b), .int (zI t), .ref (ad (18, 0))] (S := Int × (Nat → Int64) × (Int → Int) × (zk → Int → Int)) (zWp 2 (ndI (zLn (zG ar c) c a b) (c a + c b)) True c ar t (ndI (zLn (zG ar c) c a b) (c a + c b)) (dgI (zLn (zG ar c) c a b))) (fun u => some (.int (zI u.1))) (fun _ => zYK np) (fun u => zY cI cW cP cJ ad u.2.2.2 u.2.2.1 np pp pn pg u.2.1) := by
  obtain ⟨hnp, hcr, hgr, hpl⟩ := hYI
  have hca_ := hcr a hra
  have hcb_ := hcr b hrb
  have hct_ := hcr t hrt
  refine z_startW (cc := cL_multiply) (maxL := 6) (ret := some .int) (hh := [(0, 12, 15, 13), (0, 12, 19, 15), (0, 12, 23, 17)]) (own := RL) (by decide) rfl rfl (Nat.le_of_ble_eq_true rfl) [(0, .ref (ad (4, 0))), (1, .int (zI a)), (2, .int (zI b)), (3, .int (zI t)), (4, .ref (ad (18, 0)))] rfl ?_
  intro pp_ ee s mm below meth cc A0 H ls hX hA0 htab hx hb hr hml hts hown hlocks hK hF hI hKA hS hA hl
  have CF : CallFix pp_ mm cc cL_multiply 6 s ([.ref (ad (4, 0)), .int (zI a), .int (zI b), .int (zI t), .ref (ad (18, 0))] : List Value).toArray wsL_multiply RL := ⟨hx, hb, hml, hown, hts⟩
  refine lv_aload hx hb dL_multiply_0 (lv_at hl 4 rfl) ?_
  refine z_iconst hx hb dL_multiply_2 ?_
  refine lv_aload_n hx hb dL_multiply_3 rfl (lv_at hl 0 rfl) ?_
  refine lv_iload_n hx hb dL_multiply_4 rfl (lv_at hl 1 rfl) ?_
  refine lv_iload_n hx hb dL_multiply_5 rfl (lv_at hl 2 rfl) ?_
  refine lv_iload_n hx hb dL_multiply_6 rfl (lv_at hl 3 rfl) ?_
  have hRc := zf_sub hF [(4, 0), (5, 0), (0, a), (1, a), (0, b), (1, b)] (List.forall_mem_cons.mpr ⟨zKf 4 rfl rfl, (List.forall_mem_cons.mpr ⟨zKf 5 rfl rfl, (List.forall_mem_cons.mpr ⟨zK0 hra, (List.forall_mem_cons.mpr ⟨zK1 hra, (List.forall_mem_cons.mpr ⟨zK0 hrb, (List.forall_mem_cons.mpr ⟨zK1 hrb, (fun _ h => absurd h List.not_mem_nil)⟩)⟩)⟩)⟩)⟩)⟩) (wc := [((ad (4, 0)), .inr (4, [.ref (ad (5, 0)), .ref (ad (6, 0)), .int (zI np), .ref (ad (7, 0)), .ref (ad (8, 0)), .ref (ad (9, 0)), .ref (ad (10, 0))])), ((ad (5, 0)), .inl (cW, 4, .inr (.inr (.inr (.inr (fun k : Nat => (zRg ad) (k : Int))))))), ((ad (0, a)), .inr (2, [.ref (ad (1, a)), .int (zI (c a))])), ((ad (1, a)), .inl (cI, 64, .inl (zA (ar (1, a))))), ((ad (0, b)), .inr (2, [.ref (ad (1, b)), .int (zI (c b))])), ((ad (1, b)), .inl (cI, 64, .inl (zA (ar (1, b)))))]) rfl
  refine zw_catch (E := "java/lang/IllegalArgumentException") (name := "java/lang/IllegalArgumentException") (own := RL) (vx_runV (As := [.int (zI a), .int (zI b), .int (zI t)]) (rest := [.int (zI 0), .ref (ad (18, 0))]) CF (x_X5_multiply_2b l hl9 D cI cW cP (ad (4, 0)) (ad (5, 0)) (ad (6, 0)) np (ad (7, 0)) (ad (8, 0)) (ad (9, 0)) (ad (10, 0)) (zRg ad) a b t (ad (0, a)) (ad (1, a)) (c a) (ar (1, a)) (ad (0, b)) (ad (1, b)) (c b) (ar (1, b)) (ad (0, t)) (by first | omega | assumption) (by exact zRg_at hra) (by first | omega | assumption) (by exact zRg_at hrb) (by first | omega | assumption) (by exact zRg_at hrt) (by first | omega | assumption) (by first | omega | assumption) (by exact hgr a hra) (by exact hgr b hrb) (by first | omega | assumption) (by first | omega | assumption) A0 H.size) (cwV 3 hts gL_multiply_X5_multiply rfl rfl rfl (by decide +kernel) ⟨Nat.le_of_ble_eq_true rfl, Nat.le_of_ble_eq_true rfl⟩) (zw_preTV (va_recv hK hRc (ci := 4) (q0 := 0) rfl rfl) hX hA0 hA hS hRc (hK.sub (tys' := [(cI, .int), (cW, .object RX3), (cP, .object RX2)]) [0, 1, 2] rfl)) rfl rfl hl.1 rfl (lv_room (Nat.le_of_ble_eq_true rfl)) dL_multiply_7 ⟨Nat.le_of_ble_eq_true rfl, Nat.le_of_ble_eq_true rfl⟩) hF hS hA hown [⟨0, 12, 15, 13⟩] ⟨0, 12, 19, 15⟩ [⟨0, 12, 23, 17⟩] (htab.trans rfl) (List.forall_mem_cons.mpr ⟨Or.inr ⟨by decide, _, hts (.classLink RL 13 "java/lang/IndexOutOfBoundsException") (by decide +kernel), hX.2.2.2.1⟩, (fun _ h => absurd h List.not_mem_nil)⟩) rfl (by decide) (hts (.classLink RL 15 "java/lang/IllegalArgumentException") (by decide +kernel)) (z_cast (hts (.initialized "java/lang/IllegalArgumentException") (by decide +kernel))) (fun q H locs hF hS => ?_)
  refine lv_astore (lv' := [(5, .ref q), (0, .ref (ad (4, 0))), (1, .int (zI a)), (2, .int (zI b)), (3, .int (zI t)), (4, .ref (ad (18, 0)))]) hx hb dL_multiply_19 hl (by decide) rfl (fun ls hl => ?_)
  have hl := lv_sub hl [1, 2, 3, 4, 5, 0] rfl
  have hl : lv_has ls 6 [(0, .ref (ad (4, 0))), (1, .int (zI a)), (2, .int (zI b)), (3, .int (zI t)), (4, .ref (ad (18, 0))), (5, .ref q)] := hl
  refine z_iconst hx hb dL_multiply_21 ?_
  refine W.widen (k := 2) (n := 70) (Nat.le_of_ble_eq_true rfl) (Nat.le_of_ble_eq_true rfl) ?_
  exact zw_iret hx hb hr hlocks (2, o, c, ar) rfl (zWp_err (by decide)) hF hI hKA hS dL_multiply_22

set_option maxHeartbeats 4000000 in
set_option maxRecDepth 100000 in
theorem w_multiply_e3a (l : Launch) (hl9 : l.stackTraces = false) (D : va_G) (cI cW cP cJ : ClassId) (ad : zk → Nat) (ar : zk → Int → Int) (c : Int → Int) (np : Int) (pp pn : Int → Int) (pg : Int → Option Nat) (o : Nat → Int64) (a : Int) (b : Int) (t : Int) (hYI : zYI ad ar c np pp pn pg) (hra : 0 ≤ a ∧ a < 4) (hrb : 0 ≤ b ∧ b < 4) (hrt : 0 ≤ t ∧ t < 4) (hwa : ∀ k, 0 ≤ k → k < c a → 0 ≤ ar (1, a) k ∧ ar (1, a) k ≤ 9) (hwb : ∀ k, 0 ≤ k → k < c b → 0 ≤ ar (1, b) k ∧ ar (1, b) k ≤ 9) (hz : c a = 0) : zWC l yL_multiply wsL_multiply D [(cI, .int), (cW, .object RX3), (cP, .object RX2), (cJ, .long)] (zYK np) (zY cI cW cP cJ ad ar c np pp pn pg o) [.ref (ad (4, 0)), .int (zI a), .int (zI b), .int (zI t), .ref (ad (18, 0))] (S := Int × (Nat → Int64) × (Int → Int) × (zk → Int → Int)) (zWp 3 (ndI (zLn (zG ar c) c a b) (c a + c b)) True c ar t (ndI (zLn (zG ar c) c a b) (c a + c b)) (dgI (zLn (zG ar c) c a b))) (fun u => some (.int (zI u.1))) (fun _ => zYK np) (fun u => zY cI cW cP cJ ad u.2.2.2 u.2.2.1 np pp pn pg u.2.1) := by
  obtain ⟨hnp, hcr, hgr, hpl⟩ := hYI
  have hca_ := hcr a hra
  have hcb_ := hcr b hrb
  have hct_ := hcr t hrt
  refine z_startW (cc := cL_multiply) (maxL := 6) (ret := some .int) (hh := [(0, 12, 15, 13), (0, 12, 19, 15), (0, 12, 23, 17)]) (own := RL) (by decide) rfl rfl (Nat.le_of_ble_eq_true rfl) [(0, .ref (ad (4, 0))), (1, .int (zI a)), (2, .int (zI b)), (3, .int (zI t)), (4, .ref (ad (18, 0)))] rfl ?_
  intro pp_ ee s mm below meth cc A0 H ls hX hA0 htab hx hb hr hml hts hown hlocks hK hF hI hKA hS hA hl
  have CF : CallFix pp_ mm cc cL_multiply 6 s ([.ref (ad (4, 0)), .int (zI a), .int (zI b), .int (zI t), .ref (ad (18, 0))] : List Value).toArray wsL_multiply RL := ⟨hx, hb, hml, hown, hts⟩
  refine lv_aload hx hb dL_multiply_0 (lv_at hl 4 rfl) ?_
  refine z_iconst hx hb dL_multiply_2 ?_
  refine lv_aload_n hx hb dL_multiply_3 rfl (lv_at hl 0 rfl) ?_
  refine lv_iload_n hx hb dL_multiply_4 rfl (lv_at hl 1 rfl) ?_
  refine lv_iload_n hx hb dL_multiply_5 rfl (lv_at hl 2 rfl) ?_
  refine lv_iload_n hx hb dL_multiply_6 rfl (lv_at hl 3 rfl) ?_
  have hRc := zf_sub hF [(4, 0), (5, 0), (0, a), (1, a), (0, b), (1, b)] (List.forall_mem_cons.mpr ⟨zKf 4 rfl rfl, (List.forall_mem_cons.mpr ⟨zKf 5 rfl rfl, (List.forall_mem_cons.mpr ⟨zK0 hra, (List.forall_mem_cons.mpr ⟨zK1 hra, (List.forall_mem_cons.mpr ⟨zK0 hrb, (List.forall_mem_cons.mpr ⟨zK1 hrb, (fun _ h => absurd h List.not_mem_nil)⟩)⟩)⟩)⟩)⟩)⟩) (wc := [((ad (4, 0)), .inr (4, [.ref (ad (5, 0)), .ref (ad (6, 0)), .int (zI np), .ref (ad (7, 0)), .ref (ad (8, 0)), .ref (ad (9, 0)), .ref (ad (10, 0))])), ((ad (5, 0)), .inl (cW, 4, .inr (.inr (.inr (.inr (fun k : Nat => (zRg ad) (k : Int))))))), ((ad (0, a)), .inr (2, [.ref (ad (1, a)), .int (zI (c a))])), ((ad (1, a)), .inl (cI, 64, .inl (zA (ar (1, a))))), ((ad (0, b)), .inr (2, [.ref (ad (1, b)), .int (zI (c b))])), ((ad (1, b)), .inl (cI, 64, .inl (zA (ar (1, b)))))]) rfl
  refine zw_catch (E := "java/lang/IllegalStateException") (name := "java/lang/IllegalStateException") (own := RL) (vx_runV (As := [.int (zI a), .int (zI b), .int (zI t)]) (rest := [.int (zI 0), .ref (ad (18, 0))]) CF (x_X5_multiply_3a l hl9 D cI cW cP (ad (4, 0)) (ad (5, 0)) (ad (6, 0)) np (ad (7, 0)) (ad (8, 0)) (ad (9, 0)) (ad (10, 0)) (zRg ad) a b t (ad (0, a)) (ad (1, a)) (c a) (ar (1, a)) (ad (0, b)) (ad (1, b)) (c b) (ar (1, b)) (ad (0, t)) (by first | omega | assumption) (by exact zRg_at hra) (by first | omega | assumption) (by exact zRg_at hrb) (by first | omega | assumption) (by exact zRg_at hrt) (by first | omega | assumption) (by first | omega | assumption) (by first | omega | assumption) (by first | omega | assumption) (by first | omega | assumption) A0 H.size) (cwV 3 hts gL_multiply_X5_multiply rfl rfl rfl (by decide +kernel) ⟨Nat.le_of_ble_eq_true rfl, Nat.le_of_ble_eq_true rfl⟩) (zw_preTV (va_recv hK hRc (ci := 4) (q0 := 0) rfl rfl) hX hA0 hA hS hRc (hK.sub (tys' := [(cI, .int), (cW, .object RX3), (cP, .object RX2)]) [0, 1, 2] rfl)) rfl rfl hl.1 rfl (lv_room (Nat.le_of_ble_eq_true rfl)) dL_multiply_7 ⟨Nat.le_of_ble_eq_true rfl, Nat.le_of_ble_eq_true rfl⟩) hF hS hA hown [⟨0, 12, 15, 13⟩, ⟨0, 12, 19, 15⟩] ⟨0, 12, 23, 17⟩ [] (htab.trans rfl) (List.forall_mem_cons.mpr ⟨Or.inr ⟨by decide, _, hts (.classLink RL 13 "java/lang/IndexOutOfBoundsException") (by decide +kernel), hX.2.2.2.2.1⟩, (List.forall_mem_cons.mpr ⟨Or.inr ⟨by decide, _, hts (.classLink RL 15 "java/lang/IllegalArgumentException") (by decide +kernel), hX.2.2.2.2.2.1⟩, (fun _ h => absurd h List.not_mem_nil)⟩)⟩) rfl (by decide) (hts (.classLink RL 17 "java/lang/IllegalStateException") (by decide +kernel)) (z_cast (hts (.initialized "java/lang/IllegalStateException") (by decide +kernel))) (fun q H locs hF hS => ?_)
  refine lv_astore (lv' := [(5, .ref q), (0, .ref (ad (4, 0))), (1, .int (zI a)), (2, .int (zI b)), (3, .int (zI t)), (4, .ref (ad (18, 0)))]) hx hb dL_multiply_23 hl (by decide) rfl (fun ls hl => ?_)
  have hl := lv_sub hl [1, 2, 3, 4, 5, 0] rfl
  have hl : lv_has ls 6 [(0, .ref (ad (4, 0))), (1, .int (zI a)), (2, .int (zI b)), (3, .int (zI t)), (4, .ref (ad (18, 0))), (5, .ref q)] := hl
  refine z_iconst hx hb dL_multiply_25 ?_
  refine W.widen (k := 2) (n := 70) (Nat.le_of_ble_eq_true rfl) (Nat.le_of_ble_eq_true rfl) ?_
  exact zw_iret hx hb hr hlocks (3, o, c, ar) rfl (zWp_err (by decide)) hF hI hKA hS dL_multiply_26

set_option maxHeartbeats 4000000 in
set_option maxRecDepth 100000 in
theorem w_multiply_e3b (l : Launch) (hl9 : l.stackTraces = false) (D : va_G) (cI cW cP cJ : ClassId) (ad : zk → Nat) (ar : zk → Int → Int) (c : Int → Int) (np : Int) (pp pn : Int → Int) (pg : Int → Option Nat) (o : Nat → Int64) (a : Int) (b : Int) (t : Int) (hYI : zYI ad ar c np pp pn pg) (hra : 0 ≤ a ∧ a < 4) (hrb : 0 ≤ b ∧ b < 4) (hrt : 0 ≤ t ∧ t < 4) (hwa : ∀ k, 0 ≤ k → k < c a → 0 ≤ ar (1, a) k ∧ ar (1, a) k ≤ 9) (hwb : ∀ k, 0 ≤ k → k < c b → 0 ≤ ar (1, b) k ∧ ar (1, b) k ≤ 9) (hz : c a ≠ 0) (hz2 : c b = 0) : zWC l yL_multiply wsL_multiply D [(cI, .int), (cW, .object RX3), (cP, .object RX2), (cJ, .long)] (zYK np) (zY cI cW cP cJ ad ar c np pp pn pg o) [.ref (ad (4, 0)), .int (zI a), .int (zI b), .int (zI t), .ref (ad (18, 0))] (S := Int × (Nat → Int64) × (Int → Int) × (zk → Int → Int)) (zWp 3 (ndI (zLn (zG ar c) c a b) (c a + c b)) True c ar t (ndI (zLn (zG ar c) c a b) (c a + c b)) (dgI (zLn (zG ar c) c a b))) (fun u => some (.int (zI u.1))) (fun _ => zYK np) (fun u => zY cI cW cP cJ ad u.2.2.2 u.2.2.1 np pp pn pg u.2.1) := by
  obtain ⟨hnp, hcr, hgr, hpl⟩ := hYI
  have hca_ := hcr a hra
  have hcb_ := hcr b hrb
  have hct_ := hcr t hrt
  refine z_startW (cc := cL_multiply) (maxL := 6) (ret := some .int) (hh := [(0, 12, 15, 13), (0, 12, 19, 15), (0, 12, 23, 17)]) (own := RL) (by decide) rfl rfl (Nat.le_of_ble_eq_true rfl) [(0, .ref (ad (4, 0))), (1, .int (zI a)), (2, .int (zI b)), (3, .int (zI t)), (4, .ref (ad (18, 0)))] rfl ?_
  intro pp_ ee s mm below meth cc A0 H ls hX hA0 htab hx hb hr hml hts hown hlocks hK hF hI hKA hS hA hl
  have CF : CallFix pp_ mm cc cL_multiply 6 s ([.ref (ad (4, 0)), .int (zI a), .int (zI b), .int (zI t), .ref (ad (18, 0))] : List Value).toArray wsL_multiply RL := ⟨hx, hb, hml, hown, hts⟩
  refine lv_aload hx hb dL_multiply_0 (lv_at hl 4 rfl) ?_
  refine z_iconst hx hb dL_multiply_2 ?_
  refine lv_aload_n hx hb dL_multiply_3 rfl (lv_at hl 0 rfl) ?_
  refine lv_iload_n hx hb dL_multiply_4 rfl (lv_at hl 1 rfl) ?_
  refine lv_iload_n hx hb dL_multiply_5 rfl (lv_at hl 2 rfl) ?_
  refine lv_iload_n hx hb dL_multiply_6 rfl (lv_at hl 3 rfl) ?_
  have hRc := zf_sub hF [(4, 0), (5, 0), (0, a), (1, a), (0, b), (1, b)] (List.forall_mem_cons.mpr ⟨zKf 4 rfl rfl, (List.forall_mem_cons.mpr ⟨zKf 5 rfl rfl, (List.forall_mem_cons.mpr ⟨zK0 hra, (List.forall_mem_cons.mpr ⟨zK1 hra, (List.forall_mem_cons.mpr ⟨zK0 hrb, (List.forall_mem_cons.mpr ⟨zK1 hrb, (fun _ h => absurd h List.not_mem_nil)⟩)⟩)⟩)⟩)⟩)⟩) (wc := [((ad (4, 0)), .inr (4, [.ref (ad (5, 0)), .ref (ad (6, 0)), .int (zI np), .ref (ad (7, 0)), .ref (ad (8, 0)), .ref (ad (9, 0)), .ref (ad (10, 0))])), ((ad (5, 0)), .inl (cW, 4, .inr (.inr (.inr (.inr (fun k : Nat => (zRg ad) (k : Int))))))), ((ad (0, a)), .inr (2, [.ref (ad (1, a)), .int (zI (c a))])), ((ad (1, a)), .inl (cI, 64, .inl (zA (ar (1, a))))), ((ad (0, b)), .inr (2, [.ref (ad (1, b)), .int (zI (c b))])), ((ad (1, b)), .inl (cI, 64, .inl (zA (ar (1, b)))))]) rfl
  refine zw_catch (E := "java/lang/IllegalStateException") (name := "java/lang/IllegalStateException") (own := RL) (vx_runV (As := [.int (zI a), .int (zI b), .int (zI t)]) (rest := [.int (zI 0), .ref (ad (18, 0))]) CF (x_X5_multiply_3b l hl9 D cI cW cP (ad (4, 0)) (ad (5, 0)) (ad (6, 0)) np (ad (7, 0)) (ad (8, 0)) (ad (9, 0)) (ad (10, 0)) (zRg ad) a b t (ad (0, a)) (ad (1, a)) (c a) (ar (1, a)) (ad (0, b)) (ad (1, b)) (c b) (ar (1, b)) (ad (0, t)) (by first | omega | assumption) (by exact zRg_at hra) (by first | omega | assumption) (by exact zRg_at hrb) (by first | omega | assumption) (by exact zRg_at hrt) (by first | omega | assumption) (by first | omega | assumption) (by first | omega | assumption) (by first | omega | assumption) (by first | omega | assumption) (by first | omega | assumption) A0 H.size) (cwV 3 hts gL_multiply_X5_multiply rfl rfl rfl (by decide +kernel) ⟨Nat.le_of_ble_eq_true rfl, Nat.le_of_ble_eq_true rfl⟩) (zw_preTV (va_recv hK hRc (ci := 4) (q0 := 0) rfl rfl) hX hA0 hA hS hRc (hK.sub (tys' := [(cI, .int), (cW, .object RX3), (cP, .object RX2)]) [0, 1, 2] rfl)) rfl rfl hl.1 rfl (lv_room (Nat.le_of_ble_eq_true rfl)) dL_multiply_7 ⟨Nat.le_of_ble_eq_true rfl, Nat.le_of_ble_eq_true rfl⟩) hF hS hA hown [⟨0, 12, 15, 13⟩, ⟨0, 12, 19, 15⟩] ⟨0, 12, 23, 17⟩ [] (htab.trans rfl) (List.forall_mem_cons.mpr ⟨Or.inr ⟨by decide, _, hts (.classLink RL 13 "java/lang/IndexOutOfBoundsException") (by decide +kernel), hX.2.2.2.2.1⟩, (List.forall_mem_cons.mpr ⟨Or.inr ⟨by decide, _, hts (.classLink RL 15 "java/lang/IllegalArgumentException") (by decide +kernel), hX.2.2.2.2.2.1⟩, (fun _ h => absurd h List.not_mem_nil)⟩)⟩) rfl (by decide) (hts (.classLink RL 17 "java/lang/IllegalStateException") (by decide +kernel)) (z_cast (hts (.initialized "java/lang/IllegalStateException") (by decide +kernel))) (fun q H locs hF hS => ?_)
  refine lv_astore (lv' := [(5, .ref q), (0, .ref (ad (4, 0))), (1, .int (zI a)), (2, .int (zI b)), (3, .int (zI t)), (4, .ref (ad (18, 0)))]) hx hb dL_multiply_23 hl (by decide) rfl (fun ls hl => ?_)
  have hl := lv_sub hl [1, 2, 3, 4, 5, 0] rfl
  have hl : lv_has ls 6 [(0, .ref (ad (4, 0))), (1, .int (zI a)), (2, .int (zI b)), (3, .int (zI t)), (4, .ref (ad (18, 0))), (5, .ref q)] := hl
  refine z_iconst hx hb dL_multiply_25 ?_
  refine W.widen (k := 2) (n := 70) (Nat.le_of_ble_eq_true rfl) (Nat.le_of_ble_eq_true rfl) ?_
  exact zw_iret hx hb hr hlocks (3, o, c, ar) rfl (zWp_err (by decide)) hF hI hKA hS dL_multiply_26

set_option maxHeartbeats 4000000 in
set_option maxRecDepth 100000 in
theorem w_multiply_e3c (l : Launch) (hl9 : l.stackTraces = false) (D : va_G) (cI cW cP cJ : ClassId) (ad : zk → Nat) (ar : zk → Int → Int) (c : Int → Int) (np : Int) (pp pn : Int → Int) (pg : Int → Option Nat) (o : Nat → Int64) (a : Int) (b : Int) (t : Int) (hYI : zYI ad ar c np pp pn pg) (hra : 0 ≤ a ∧ a < 4) (hrb : 0 ≤ b ∧ b < 4) (hrt : 0 ≤ t ∧ t < 4) (hwa : ∀ k, 0 ≤ k → k < c a → 0 ≤ ar (1, a) k ∧ ar (1, a) k ≤ 9) (hwb : ∀ k, 0 ≤ k → k < c b → 0 ≤ ar (1, b) k ∧ ar (1, b) k ≤ 9) (hz : c a ≠ 0) (hz2 : c b ≠ 0) (htt : 64 < c a + c b) : zWC l yL_multiply wsL_multiply D [(cI, .int), (cW, .object RX3), (cP, .object RX2), (cJ, .long)] (zYK np) (zY cI cW cP cJ ad ar c np pp pn pg o) [.ref (ad (4, 0)), .int (zI a), .int (zI b), .int (zI t), .ref (ad (18, 0))] (S := Int × (Nat → Int64) × (Int → Int) × (zk → Int → Int)) (zWp 3 (ndI (zLn (zG ar c) c a b) (c a + c b)) True c ar t (ndI (zLn (zG ar c) c a b) (c a + c b)) (dgI (zLn (zG ar c) c a b))) (fun u => some (.int (zI u.1))) (fun _ => zYK np) (fun u => zY cI cW cP cJ ad u.2.2.2 u.2.2.1 np pp pn pg u.2.1) := by
  obtain ⟨hnp, hcr, hgr, hpl⟩ := hYI
  have hca_ := hcr a hra
  have hcb_ := hcr b hrb
  have hct_ := hcr t hrt
  refine z_startW (cc := cL_multiply) (maxL := 6) (ret := some .int) (hh := [(0, 12, 15, 13), (0, 12, 19, 15), (0, 12, 23, 17)]) (own := RL) (by decide) rfl rfl (Nat.le_of_ble_eq_true rfl) [(0, .ref (ad (4, 0))), (1, .int (zI a)), (2, .int (zI b)), (3, .int (zI t)), (4, .ref (ad (18, 0)))] rfl ?_
  intro pp_ ee s mm below meth cc A0 H ls hX hA0 htab hx hb hr hml hts hown hlocks hK hF hI hKA hS hA hl
  have CF : CallFix pp_ mm cc cL_multiply 6 s ([.ref (ad (4, 0)), .int (zI a), .int (zI b), .int (zI t), .ref (ad (18, 0))] : List Value).toArray wsL_multiply RL := ⟨hx, hb, hml, hown, hts⟩
  refine lv_aload hx hb dL_multiply_0 (lv_at hl 4 rfl) ?_
  refine z_iconst hx hb dL_multiply_2 ?_
  refine lv_aload_n hx hb dL_multiply_3 rfl (lv_at hl 0 rfl) ?_
  refine lv_iload_n hx hb dL_multiply_4 rfl (lv_at hl 1 rfl) ?_
  refine lv_iload_n hx hb dL_multiply_5 rfl (lv_at hl 2 rfl) ?_
  refine lv_iload_n hx hb dL_multiply_6 rfl (lv_at hl 3 rfl) ?_
  have hRc := zf_sub hF [(4, 0), (5, 0), (0, a), (1, a), (0, b), (1, b)] (List.forall_mem_cons.mpr ⟨zKf 4 rfl rfl, (List.forall_mem_cons.mpr ⟨zKf 5 rfl rfl, (List.forall_mem_cons.mpr ⟨zK0 hra, (List.forall_mem_cons.mpr ⟨zK1 hra, (List.forall_mem_cons.mpr ⟨zK0 hrb, (List.forall_mem_cons.mpr ⟨zK1 hrb, (fun _ h => absurd h List.not_mem_nil)⟩)⟩)⟩)⟩)⟩)⟩) (wc := [((ad (4, 0)), .inr (4, [.ref (ad (5, 0)), .ref (ad (6, 0)), .int (zI np), .ref (ad (7, 0)), .ref (ad (8, 0)), .ref (ad (9, 0)), .ref (ad (10, 0))])), ((ad (5, 0)), .inl (cW, 4, .inr (.inr (.inr (.inr (fun k : Nat => (zRg ad) (k : Int))))))), ((ad (0, a)), .inr (2, [.ref (ad (1, a)), .int (zI (c a))])), ((ad (1, a)), .inl (cI, 64, .inl (zA (ar (1, a))))), ((ad (0, b)), .inr (2, [.ref (ad (1, b)), .int (zI (c b))])), ((ad (1, b)), .inl (cI, 64, .inl (zA (ar (1, b)))))]) rfl
  refine zw_catch (E := "java/lang/IllegalStateException") (name := "java/lang/IllegalStateException") (own := RL) (vx_runV (As := [.int (zI a), .int (zI b), .int (zI t)]) (rest := [.int (zI 0), .ref (ad (18, 0))]) CF (x_X5_multiply_3c l hl9 D cI cW cP (ad (4, 0)) (ad (5, 0)) (ad (6, 0)) np (ad (7, 0)) (ad (8, 0)) (ad (9, 0)) (ad (10, 0)) (zRg ad) a b t (ad (0, a)) (ad (1, a)) (c a) (ar (1, a)) (ad (0, b)) (ad (1, b)) (c b) (ar (1, b)) (ad (0, t)) (by first | omega | assumption) (by exact zRg_at hra) (by first | omega | assumption) (by exact zRg_at hrb) (by first | omega | assumption) (by exact zRg_at hrt) (by first | omega | assumption) (by first | omega | assumption) (by first | omega | assumption) (by first | omega | assumption) (by first | omega | assumption) (by first | omega | assumption) (by first | omega | assumption) A0 H.size) (cwV 3 hts gL_multiply_X5_multiply rfl rfl rfl (by decide +kernel) ⟨Nat.le_of_ble_eq_true rfl, Nat.le_of_ble_eq_true rfl⟩) (zw_preTV (va_recv hK hRc (ci := 4) (q0 := 0) rfl rfl) hX hA0 hA hS hRc (hK.sub (tys' := [(cI, .int), (cW, .object RX3), (cP, .object RX2)]) [0, 1, 2] rfl)) rfl rfl hl.1 rfl (lv_room (Nat.le_of_ble_eq_true rfl)) dL_multiply_7 ⟨Nat.le_of_ble_eq_true rfl, Nat.le_of_ble_eq_true rfl⟩) hF hS hA hown [⟨0, 12, 15, 13⟩, ⟨0, 12, 19, 15⟩] ⟨0, 12, 23, 17⟩ [] (htab.trans rfl) (List.forall_mem_cons.mpr ⟨Or.inr ⟨by decide, _, hts (.classLink RL 13 "java/lang/IndexOutOfBoundsException") (by decide +kernel), hX.2.2.2.2.1⟩, (List.forall_mem_cons.mpr ⟨Or.inr ⟨by decide, _, hts (.classLink RL 15 "java/lang/IllegalArgumentException") (by decide +kernel), hX.2.2.2.2.2.1⟩, (fun _ h => absurd h List.not_mem_nil)⟩)⟩) rfl (by decide) (hts (.classLink RL 17 "java/lang/IllegalStateException") (by decide +kernel)) (z_cast (hts (.initialized "java/lang/IllegalStateException") (by decide +kernel))) (fun q H locs hF hS => ?_)
  refine lv_astore (lv' := [(5, .ref q), (0, .ref (ad (4, 0))), (1, .int (zI a)), (2, .int (zI b)), (3, .int (zI t)), (4, .ref (ad (18, 0)))]) hx hb dL_multiply_23 hl (by decide) rfl (fun ls hl => ?_)
  have hl := lv_sub hl [1, 2, 3, 4, 5, 0] rfl
  have hl : lv_has ls 6 [(0, .ref (ad (4, 0))), (1, .int (zI a)), (2, .int (zI b)), (3, .int (zI t)), (4, .ref (ad (18, 0))), (5, .ref q)] := hl
  refine z_iconst hx hb dL_multiply_25 ?_
  refine W.widen (k := 2) (n := 70) (Nat.le_of_ble_eq_true rfl) (Nat.le_of_ble_eq_true rfl) ?_
  exact zw_iret hx hb hr hlocks (3, o, c, ar) rfl (zWp_err (by decide)) hF hI hKA hS dL_multiply_26

set_option maxHeartbeats 4000000 in
set_option maxRecDepth 100000 in
theorem w_multiply_D (l : Launch) (hl9 : l.stackTraces = false) (D : va_G) (cI cW cP cJ : ClassId) (ad : zk → Nat) (ar : zk → Int → Int) (c : Int → Int) (np : Int) (pp pn : Int → Int) (pg : Int → Option Nat) (o : Nat → Int64) (a : Int) (b : Int) (t : Int) (hYI : zYI ad ar c np pp pn pg) (hra : 0 ≤ a ∧ a < 4) (hrb : 0 ≤ b ∧ b < 4) (hrt : 0 ≤ t ∧ t < 4) (hwa : ∀ k, 0 ≤ k → k < c a → 0 ≤ ar (1, a) k ∧ ar (1, a) k ≤ 9) (hwb : ∀ k, 0 ≤ k → k < c b → 0 ≤ ar (1, b) k ∧ ar (1, b) k ≤ 9) (hz : c a ≠ 0) (hz2 : c b ≠ 0) (htt : c a + c b ≤ 64) (hta : ¬ t = a) (htb : ¬ t = b) : zWC l yL_multiply wsL_multiply D [(cI, .int), (cW, .object RX3), (cP, .object RX2), (cJ, .long)] (zYK np) (zY cI cW cP cJ ad ar c np pp pn pg o) [.ref (ad (4, 0)), .int (zI a), .int (zI b), .int (zI t), .ref (ad (18, 0))] (S := Int × (Nat → Int64) × (Int → Int) × (zk → Int → Int)) (zWp 0 (ndI (zLn (zG ar c) c a b) (c a + c b)) True c ar t (ndI (zLn (zG ar c) c a b) (c a + c b)) (dgI (zLn (zG ar c) c a b))) (fun u => some (.int (zI u.1))) (fun _ => zYK np) (fun u => zY cI cW cP cJ ad u.2.2.2 u.2.2.1 np pp pn pg u.2.1) := by
  obtain ⟨hnp, hcr, hgr, hpl⟩ := hYI
  have hca_ := hcr a hra
  have hcb_ := hcr b hrb
  have hct_ := hcr t hrt
  have hnd := ndI_rng (L := lin (ar (1, a)) (c a) (ar (1, b)) (c b)) (c a + c b) (by omega)
  refine z_startW (cc := cL_multiply) (maxL := 6) (ret := some .int) (hh := [(0, 12, 15, 13), (0, 12, 19, 15), (0, 12, 23, 17)]) (own := RL) (by decide) rfl rfl (Nat.le_of_ble_eq_true rfl) [(0, .ref (ad (4, 0))), (1, .int (zI a)), (2, .int (zI b)), (3, .int (zI t)), (4, .ref (ad (18, 0)))] rfl ?_
  intro pp_ ee s mm below meth cc A0 H ls hX hA0 htab hx hb hr hml hts hown hlocks hK hF hI hKA hS hA hl
  have CF : CallFix pp_ mm cc cL_multiply 6 s ([.ref (ad (4, 0)), .int (zI a), .int (zI b), .int (zI t), .ref (ad (18, 0))] : List Value).toArray wsL_multiply RL := ⟨hx, hb, hml, hown, hts⟩
  refine lv_aload hx hb dL_multiply_0 (lv_at hl 4 rfl) ?_
  refine z_iconst hx hb dL_multiply_2 ?_
  refine lv_aload_n hx hb dL_multiply_3 rfl (lv_at hl 0 rfl) ?_
  refine lv_iload_n hx hb dL_multiply_4 rfl (lv_at hl 1 rfl) ?_
  refine lv_iload_n hx hb dL_multiply_5 rfl (lv_at hl 2 rfl) ?_
  refine lv_iload_n hx hb dL_multiply_6 rfl (lv_at hl 3 rfl) ?_
  have hRc := zf_sub hF [(4, 0), (5, 0), (8, 0), (0, a), (1, a), (0, b), (1, b)] (List.forall_mem_cons.mpr ⟨zKf 4 rfl rfl, (List.forall_mem_cons.mpr ⟨zKf 5 rfl rfl, (List.forall_mem_cons.mpr ⟨zKf 8 rfl rfl, (List.forall_mem_cons.mpr ⟨zK0 hra, (List.forall_mem_cons.mpr ⟨zK1 hra, (List.forall_mem_cons.mpr ⟨zK0 hrb, (List.forall_mem_cons.mpr ⟨zK1 hrb, (fun _ h => absurd h List.not_mem_nil)⟩)⟩)⟩)⟩)⟩)⟩)⟩) (wc := [((ad (4, 0)), .inr (4, [.ref (ad (5, 0)), .ref (ad (6, 0)), .int (zI np), .ref (ad (7, 0)), .ref (ad (8, 0)), .ref (ad (9, 0)), .ref (ad (10, 0))])), ((ad (5, 0)), .inl (cW, 4, .inr (.inr (.inr (.inr (fun k : Nat => (zRg ad) (k : Int))))))), ((ad (8, 0)), .inr (0, [.ref (ad (16, 0)), .ref (ad (17, 0))])), ((ad (0, a)), .inr (2, [.ref (ad (1, a)), .int (zI (c a))])), ((ad (1, a)), .inl (cI, 64, .inl (zA (ar (1, a))))), ((ad (0, b)), .inr (2, [.ref (ad (1, b)), .int (zI (c b))])), ((ad (1, b)), .inl (cI, 64, .inl (zA (ar (1, b)))))]) rfl
  have hPc := zf_sub hF [(0, t), (1, t), (16, 0)] (List.forall_mem_cons.mpr ⟨zK0 hrt, (List.forall_mem_cons.mpr ⟨zK1 hrt, (List.forall_mem_cons.mpr ⟨zKf 16 rfl rfl, (fun _ h => absurd h List.not_mem_nil)⟩)⟩)⟩) (wc := [((ad (0, t)), .inr (2, [.ref (ad (1, t)), .int (zI (c t))])), ((ad (1, t)), .inl (cI, 64, .inl (zA (ar (1, t))))), ((ad (16, 0)), .inl (cI, 64, .inl (zA (ar (16, 0)))))]) rfl
  have hDc := zf_subD hI hKA [(0, t), (1, t), (16, 0)] (List.forall_mem_cons.mpr ⟨zK0 hrt, (List.forall_mem_cons.mpr ⟨zK1 hrt, (List.forall_mem_cons.mpr ⟨zKf 16 rfl rfl, (fun _ h => absurd h List.not_mem_nil)⟩)⟩)⟩) (by simp) (wc := [((ad (0, t)), .inr (2, [.ref (ad (1, t)), .int (zI (c t))])), ((ad (1, t)), .inl (cI, 64, .inl (zA (ar (1, t))))), ((ad (16, 0)), .inl (cI, 64, .inl (zA (ar (16, 0)))))]) rfl
  have hXc := zf_dis hI [(0, t), (1, t), (16, 0)] [(4, 0), (5, 0), (8, 0), (0, a), (1, a), (0, b), (1, b)] (List.forall_mem_cons.mpr ⟨zK0 hrt, (List.forall_mem_cons.mpr ⟨zK1 hrt, (List.forall_mem_cons.mpr ⟨zKf 16 rfl rfl, (fun _ h => absurd h List.not_mem_nil)⟩)⟩)⟩) (List.forall_mem_cons.mpr ⟨zKf 4 rfl rfl, (List.forall_mem_cons.mpr ⟨zKf 5 rfl rfl, (List.forall_mem_cons.mpr ⟨zKf 8 rfl rfl, (List.forall_mem_cons.mpr ⟨zK0 hra, (List.forall_mem_cons.mpr ⟨zK1 hra, (List.forall_mem_cons.mpr ⟨zK0 hrb, (List.forall_mem_cons.mpr ⟨zK1 hrb, (fun _ h => absurd h List.not_mem_nil)⟩)⟩)⟩)⟩)⟩)⟩)⟩) (by simp [show ¬ a = t from fun h => hta h.symm, show ¬ b = t from fun h => htb h.symm]) (wc := [((ad (0, t)), .inr (2, [.ref (ad (1, t)), .int (zI (c t))])), ((ad (1, t)), .inl (cI, 64, .inl (zA (ar (1, t))))), ((ad (16, 0)), .inl (cI, 64, .inl (zA (ar (16, 0)))))]) (rc := [((ad (4, 0)), .inr (4, [.ref (ad (5, 0)), .ref (ad (6, 0)), .int (zI np), .ref (ad (7, 0)), .ref (ad (8, 0)), .ref (ad (9, 0)), .ref (ad (10, 0))])), ((ad (5, 0)), .inl (cW, 4, .inr (.inr (.inr (.inr (fun k : Nat => (zRg ad) (k : Int))))))), ((ad (8, 0)), .inr (0, [.ref (ad (16, 0)), .ref (ad (17, 0))])), ((ad (0, a)), .inr (2, [.ref (ad (1, a)), .int (zI (c a))])), ((ad (1, a)), .inl (cI, 64, .inl (zA (ar (1, a))))), ((ad (0, b)), .inr (2, [.ref (ad (1, b)), .int (zI (c b))])), ((ad (1, b)), .inl (cI, 64, .inl (zA (ar (1, b)))))]) rfl rfl
  refine zf_call (wc := [((ad (0, t)), .inr (2, [.ref (ad (1, t)), .int (zI (c t))])), ((ad (1, t)), .inl (cI, 64, .inl (zA (ar (1, t))))), ((ad (16, 0)), .inl (cI, 64, .inl (zA (ar (16, 0)))))]) (va_runV (As := [.int (zI a), .int (zI b), .int (zI t)]) (rest := [.int (zI 0), .ref (ad (18, 0))]) CF (c_X5_multiply_D l D cI cW cP (ad (4, 0)) (ad (5, 0)) (ad (6, 0)) np (ad (7, 0)) (ad (8, 0)) (ad (9, 0)) (ad (10, 0)) (zRg ad) (ad (16, 0)) (ad (17, 0)) a b t (ad (0, a)) (ad (1, a)) (c a) (ar (1, a)) (ad (0, b)) (ad (1, b)) (c b) (ar (1, b)) (ad (0, t)) (ad (1, t)) (c t) (ar (1, t)) (ar (16, 0)) (by first | omega | assumption) (by exact zRg_at hra) (by first | omega | assumption) (by exact zRg_at hrb) (by first | omega | assumption) (by exact zRg_at hrt) (by first | omega | assumption) (by first | omega | assumption) (by first | omega | assumption) (by first | omega | assumption) (by first | omega | assumption) H.size) (cwV 3 hts gL_multiply_X5_multiply rfl rfl rfl (by decide +kernel) ⟨Nat.le_of_ble_eq_true rfl, Nat.le_of_ble_eq_true rfl⟩) (z_preV (va_recv hK hRc (ci := 4) (q0 := 0) rfl rfl) hPc hDc hRc hXc (hK.sub (tys' := [(cI, .int), (cW, .object RX3), (cP, .object RX2)]) [0, 1, 2] rfl)) rfl rfl hl.1 rfl (lv_room (Nat.le_of_ble_eq_true rfl)) dL_multiply_7 ⟨Nat.le_of_ble_eq_true rfl, Nat.le_of_ble_eq_true rfl⟩) hF hI hKA hS hA [(0, t), (1, t), (16, 0)] [(0, t), (1, t), (16, 0)] (List.forall_mem_cons.mpr ⟨zK0 hrt, (List.forall_mem_cons.mpr ⟨zK1 hrt, (List.forall_mem_cons.mpr ⟨zKf 16 rfl rfl, (fun _ h => absurd h List.not_mem_nil)⟩)⟩)⟩) rfl (fun _ => zYK np) (fun (a2, r2) => zY cI cW cP cJ ad (zUA (zUA ar (1, t) a2) (16, 0) r2) (zU c t (ndI (lin (ar (1, a)) (c a) (ar (1, b)) (c b)) ((c a) + (c b)))) np pp pn pg o) (fun u hu => by
        obtain ⟨a2, r2⟩ := u
        show ([(ad (0, t), .inr (2, [.ref (ad (1, t)), .int (zI ((zU c t (ndI (lin (ar (1, a)) (c a) (ar (1, b)) (c b)) ((c a) + (c b)))) t))])), (ad (1, t), .inl (cI, 64, .inl (zA ((zUA (zUA ar (1, t) a2) (16, 0) r2) (1, t))))), (ad (16, 0), .inl (cI, 64, .inl (zA ((zUA (zUA ar (1, t) a2) (16, 0) r2) (16, 0)))))] : va_W) = _
        rw [show (zU c t (ndI (lin (ar (1, a)) (c a) (ar (1, b)) (c b)) ((c a) + (c b)))) t = ndI (lin (ar (1, a)) (c a) (ar (1, b)) (c b)) ((c a) + (c b)) from zU_s _ _ _, show (zUA (zUA ar (1, t) a2) (16, 0) r2) (1, t) = a2 from by simp [zUA], show (zUA (zUA ar (1, t) a2) (16, 0) r2) (16, 0) = r2 from by simp [zUA]]) (fun u hu k hk => by
        obtain ⟨a2, r2⟩ := u
        by_cases hm : k ∈ [(0, t), (1, t), (16, 0)]
        · exact Or.inl hm
        · refine Or.inr ⟨hk, hm, ?_⟩
          simp only [List.mem_cons, List.not_mem_nil, or_false, not_or] at hm
          exact zY_ext (by simp [zUA, hm]) (fun h0 => zU_n _ _ (fun h1 => hm.1 (Prod.ext h0 h1)))) (cells' := 0) (slots' := 0) rfl rfl (fun u H locs hp_ hF hI hKA hS => ?_)
  obtain ⟨a2, r2⟩ := u
  have hp_ : ∀ k, 0 ≤ k → k < ndI (lin (ar (1, a)) (c a) (ar (1, b)) (c b)) ((c a) + (c b)) → a2 k = dgI (lin (ar (1, a)) (c a) (ar (1, b)) (c b)) k := hp_
  have hF : zFP D (zYK np) (zY cI cW cP cJ ad (zUA (zUA ar (1, t) a2) (16, 0) r2) (zU c t (ndI (lin (ar (1, a)) (c a) (ar (1, b)) (c b)) ((c a) + (c b)))) np pp pn pg o) H := hF
  have hI : zIn (zYK np) (zY cI cW cP cJ ad (zUA (zUA ar (1, t) a2) (16, 0) r2) (zU c t (ndI (lin (ar (1, a)) (c a) (ar (1, b)) (c b)) ((c a) + (c b)))) np pp pn pg o) := hI
  have hrg_ : -2147483648 ≤ ndI (lin (ar (1, a)) (c a) (ar (1, b)) (c b)) ((c a) + (c b)) ∧ ndI (lin (ar (1, a)) (c a) (ar (1, b)) (c b)) ((c a) + (c b)) ≤ 2147483647 := by omega
  refine z_i2l hx hb dL_multiply_10 hrg_ ?_
  refine zw_last hx hb hK hF hI hKA hS (ko := (18, 0)) (zKf 18 rfl rfl) (v := ndI (lin (ar (1, a)) (c a) (ar (1, b)) (c b)) ((c a) + (c b))) rfl 3 rfl dL_multiply_11 (zY cI cW cP cJ ad (zUA (zUA ar (1, t) a2) (16, 0) r2) (zU c t (ndI (lin (ar (1, a)) (c a) (ar (1, b)) (c b)) ((c a) + (c b)))) np pp pn pg (vp_updL o 0 (zL (ndI (lin (ar (1, a)) (c a) (ar (1, b)) (c b)) ((c a) + (c b)))))) (fun k hk hne => zY_out hk hne) rfl (fun H locs hF hI hKA hS => ?_)
  refine lv_goto (tgt := 27) hx hb dL_multiply_12 (by decide) ?_
  refine z_iconst hx hb dL_multiply_27 ?_
  refine W.widen (k := 2) (n := 70) (Nat.le_of_ble_eq_true rfl) (Nat.le_of_ble_eq_true rfl) ?_
  have hv_e : ndI (lin (ar (1, a)) (c a) (ar (1, b)) (c b)) ((c a) + (c b)) = ndI (zLn (zG ar c) c a b) (c a + c b) := by rfl
  rw [hv_e] at hrg_
  have hv_0 : (vp_updL o 0 (zL (ndI (lin (ar (1, a)) (c a) (ar (1, b)) (c b)) ((c a) + (c b))))) 0 = zL (ndI (zLn (zG ar c) c a b) (c a + c b)) := (show vp_updL o 0 (zL (ndI (lin (ar (1, a)) (c a) (ar (1, b)) (c b)) ((c a) + (c b)))) 0 = zL (ndI (lin (ar (1, a)) (c a) (ar (1, b)) (c b)) ((c a) + (c b))) from if_pos rfl).trans (congrArg zL hv_e)
  have hv_1 : ∀ k, 0 ≤ k → k < ndI (zLn (zG ar c) c a b) (c a + c b) → (zUA (zUA ar (1, t) a2) (16, 0) r2) (1, t) k = (dgI (zLn (zG ar c) c a b)) k := by
    intro k h1 h2
    rw [show (zUA (zUA ar (1, t) a2) (16, 0) r2) (1, t) = a2 from by simp [zUA]]
    exact hp_ k h1 h2
  exact zw_iret hx hb hr hlocks (0, vp_updL o 0 (zL (ndI (lin (ar (1, a)) (c a) (ar (1, b)) (c b)) ((c a) + (c b)))), zU c t (ndI (lin (ar (1, a)) (c a) (ar (1, b)) (c b)) ((c a) + (c b))), zUA (zUA ar (1, t) a2) (16, 0) r2) rfl (zWp_mu hv_0 hrg_ rfl hv_1 (fun r hr_ => by simp [zUA, hr_]) (fun j => by simp [zUA])) hF hI hKA hS dL_multiply_28

set_option maxHeartbeats 4000000 in
set_option maxRecDepth 100000 in
theorem w_multiply_A (l : Launch) (hl9 : l.stackTraces = false) (D : va_G) (cI cW cP cJ : ClassId) (ad : zk → Nat) (ar : zk → Int → Int) (c : Int → Int) (np : Int) (pp pn : Int → Int) (pg : Int → Option Nat) (o : Nat → Int64) (a : Int) (b : Int) (t : Int) (hYI : zYI ad ar c np pp pn pg) (hra : 0 ≤ a ∧ a < 4) (hrb : 0 ≤ b ∧ b < 4) (hrt : 0 ≤ t ∧ t < 4) (hwa : ∀ k, 0 ≤ k → k < c a → 0 ≤ ar (1, a) k ∧ ar (1, a) k ≤ 9) (hwb : ∀ k, 0 ≤ k → k < c b → 0 ≤ ar (1, b) k ∧ ar (1, b) k ≤ 9) (hz : c a ≠ 0) (hz2 : c b ≠ 0) (htt : c a + c b ≤ 64) (hta : a = t) (hba : ¬ b = a) : zWC l yL_multiply wsL_multiply D [(cI, .int), (cW, .object RX3), (cP, .object RX2), (cJ, .long)] (zYK np) (zY cI cW cP cJ ad ar c np pp pn pg o) [.ref (ad (4, 0)), .int (zI a), .int (zI b), .int (zI t), .ref (ad (18, 0))] (S := Int × (Nat → Int64) × (Int → Int) × (zk → Int → Int)) (zWp 0 (ndI (zLn (zG ar c) c a b) (c a + c b)) True c ar t (ndI (zLn (zG ar c) c a b) (c a + c b)) (dgI (zLn (zG ar c) c a b))) (fun u => some (.int (zI u.1))) (fun _ => zYK np) (fun u => zY cI cW cP cJ ad u.2.2.2 u.2.2.1 np pp pn pg u.2.1) := by
  obtain ⟨hnp, hcr, hgr, hpl⟩ := hYI
  have hca_ := hcr a hra
  have hcb_ := hcr b hrb
  have hct_ := hcr t hrt
  have hnd := ndI_rng (L := lin (ar (1, a)) (c a) (ar (1, b)) (c b)) (c a + c b) (by omega)
  subst hta
  refine z_startW (cc := cL_multiply) (maxL := 6) (ret := some .int) (hh := [(0, 12, 15, 13), (0, 12, 19, 15), (0, 12, 23, 17)]) (own := RL) (by decide) rfl rfl (Nat.le_of_ble_eq_true rfl) [(0, .ref (ad (4, 0))), (1, .int (zI a)), (2, .int (zI b)), (3, .int (zI a)), (4, .ref (ad (18, 0)))] rfl ?_
  intro pp_ ee s mm below meth cc A0 H ls hX hA0 htab hx hb hr hml hts hown hlocks hK hF hI hKA hS hA hl
  have CF : CallFix pp_ mm cc cL_multiply 6 s ([.ref (ad (4, 0)), .int (zI a), .int (zI b), .int (zI a), .ref (ad (18, 0))] : List Value).toArray wsL_multiply RL := ⟨hx, hb, hml, hown, hts⟩
  refine lv_aload hx hb dL_multiply_0 (lv_at hl 4 rfl) ?_
  refine z_iconst hx hb dL_multiply_2 ?_
  refine lv_aload_n hx hb dL_multiply_3 rfl (lv_at hl 0 rfl) ?_
  refine lv_iload_n hx hb dL_multiply_4 rfl (lv_at hl 1 rfl) ?_
  refine lv_iload_n hx hb dL_multiply_5 rfl (lv_at hl 2 rfl) ?_
  refine lv_iload_n hx hb dL_multiply_6 rfl (lv_at hl 3 rfl) ?_
  have hRc := zf_sub hF [(4, 0), (5, 0), (8, 0), (0, b), (1, b)] (List.forall_mem_cons.mpr ⟨zKf 4 rfl rfl, (List.forall_mem_cons.mpr ⟨zKf 5 rfl rfl, (List.forall_mem_cons.mpr ⟨zKf 8 rfl rfl, (List.forall_mem_cons.mpr ⟨zK0 hrb, (List.forall_mem_cons.mpr ⟨zK1 hrb, (fun _ h => absurd h List.not_mem_nil)⟩)⟩)⟩)⟩)⟩) (wc := [((ad (4, 0)), .inr (4, [.ref (ad (5, 0)), .ref (ad (6, 0)), .int (zI np), .ref (ad (7, 0)), .ref (ad (8, 0)), .ref (ad (9, 0)), .ref (ad (10, 0))])), ((ad (5, 0)), .inl (cW, 4, .inr (.inr (.inr (.inr (fun k : Nat => (zRg ad) (k : Int))))))), ((ad (8, 0)), .inr (0, [.ref (ad (16, 0)), .ref (ad (17, 0))])), ((ad (0, b)), .inr (2, [.ref (ad (1, b)), .int (zI (c b))])), ((ad (1, b)), .inl (cI, 64, .inl (zA (ar (1, b)))))]) rfl
  have hPc := zf_sub hF [(0, a), (1, a), (16, 0)] (List.forall_mem_cons.mpr ⟨zK0 hra, (List.forall_mem_cons.mpr ⟨zK1 hra, (List.forall_mem_cons.mpr ⟨zKf 16 rfl rfl, (fun _ h => absurd h List.not_mem_nil)⟩)⟩)⟩) (wc := [((ad (0, a)), .inr (2, [.ref (ad (1, a)), .int (zI (c a))])), ((ad (1, a)), .inl (cI, 64, .inl (zA (ar (1, a))))), ((ad (16, 0)), .inl (cI, 64, .inl (zA (ar (16, 0)))))]) rfl
  have hDc := zf_subD hI hKA [(0, a), (1, a), (16, 0)] (List.forall_mem_cons.mpr ⟨zK0 hra, (List.forall_mem_cons.mpr ⟨zK1 hra, (List.forall_mem_cons.mpr ⟨zKf 16 rfl rfl, (fun _ h => absurd h List.not_mem_nil)⟩)⟩)⟩) (by simp) (wc := [((ad (0, a)), .inr (2, [.ref (ad (1, a)), .int (zI (c a))])), ((ad (1, a)), .inl (cI, 64, .inl (zA (ar (1, a))))), ((ad (16, 0)), .inl (cI, 64, .inl (zA (ar (16, 0)))))]) rfl
  have hXc := zf_dis hI [(0, a), (1, a), (16, 0)] [(4, 0), (5, 0), (8, 0), (0, b), (1, b)] (List.forall_mem_cons.mpr ⟨zK0 hra, (List.forall_mem_cons.mpr ⟨zK1 hra, (List.forall_mem_cons.mpr ⟨zKf 16 rfl rfl, (fun _ h => absurd h List.not_mem_nil)⟩)⟩)⟩) (List.forall_mem_cons.mpr ⟨zKf 4 rfl rfl, (List.forall_mem_cons.mpr ⟨zKf 5 rfl rfl, (List.forall_mem_cons.mpr ⟨zKf 8 rfl rfl, (List.forall_mem_cons.mpr ⟨zK0 hrb, (List.forall_mem_cons.mpr ⟨zK1 hrb, (fun _ h => absurd h List.not_mem_nil)⟩)⟩)⟩)⟩)⟩) (by simp [hba]) (wc := [((ad (0, a)), .inr (2, [.ref (ad (1, a)), .int (zI (c a))])), ((ad (1, a)), .inl (cI, 64, .inl (zA (ar (1, a))))), ((ad (16, 0)), .inl (cI, 64, .inl (zA (ar (16, 0)))))]) (rc := [((ad (4, 0)), .inr (4, [.ref (ad (5, 0)), .ref (ad (6, 0)), .int (zI np), .ref (ad (7, 0)), .ref (ad (8, 0)), .ref (ad (9, 0)), .ref (ad (10, 0))])), ((ad (5, 0)), .inl (cW, 4, .inr (.inr (.inr (.inr (fun k : Nat => (zRg ad) (k : Int))))))), ((ad (8, 0)), .inr (0, [.ref (ad (16, 0)), .ref (ad (17, 0))])), ((ad (0, b)), .inr (2, [.ref (ad (1, b)), .int (zI (c b))])), ((ad (1, b)), .inl (cI, 64, .inl (zA (ar (1, b)))))]) rfl rfl
  refine zf_call (wc := [((ad (0, a)), .inr (2, [.ref (ad (1, a)), .int (zI (c a))])), ((ad (1, a)), .inl (cI, 64, .inl (zA (ar (1, a))))), ((ad (16, 0)), .inl (cI, 64, .inl (zA (ar (16, 0)))))]) (va_runV (As := [.int (zI a), .int (zI b), .int (zI a)]) (rest := [.int (zI 0), .ref (ad (18, 0))]) CF (c_X5_multiply_A l D cI cW cP (ad (4, 0)) (ad (5, 0)) (ad (6, 0)) np (ad (7, 0)) (ad (8, 0)) (ad (9, 0)) (ad (10, 0)) (zRg ad) (ad (16, 0)) (ad (17, 0)) a b a (ad (0, a)) (ad (1, a)) (c a) (ar (1, a)) (ad (0, b)) (ad (1, b)) (c b) (ar (1, b)) (ar (16, 0)) (by first | omega | assumption) (by exact zRg_at hra) (by first | omega | assumption) (by exact zRg_at hrb) (by first | omega | assumption) (by exact zRg_at hrt) (by first | omega | assumption) (by first | omega | assumption) (by first | omega | assumption) (by first | omega | assumption) (by first | omega | assumption) H.size) (cwV 3 hts gL_multiply_X5_multiply rfl rfl rfl (by decide +kernel) ⟨Nat.le_of_ble_eq_true rfl, Nat.le_of_ble_eq_true rfl⟩) (z_preV (va_recv hK hRc (ci := 4) (q0 := 0) rfl rfl) hPc hDc hRc hXc (hK.sub (tys' := [(cI, .int), (cW, .object RX3), (cP, .object RX2)]) [0, 1, 2] rfl)) rfl rfl hl.1 rfl (lv_room (Nat.le_of_ble_eq_true rfl)) dL_multiply_7 ⟨Nat.le_of_ble_eq_true rfl, Nat.le_of_ble_eq_true rfl⟩) hF hI hKA hS hA [(0, a), (1, a), (16, 0)] [(0, a), (1, a), (16, 0)] (List.forall_mem_cons.mpr ⟨zK0 hra, (List.forall_mem_cons.mpr ⟨zK1 hra, (List.forall_mem_cons.mpr ⟨zKf 16 rfl rfl, (fun _ h => absurd h List.not_mem_nil)⟩)⟩)⟩) rfl (fun _ => zYK np) (fun (a2, r2) => zY cI cW cP cJ ad (zUA (zUA ar (1, a) a2) (16, 0) r2) (zU c a (ndI (lin (ar (1, a)) (c a) (ar (1, b)) (c b)) ((c a) + (c b)))) np pp pn pg o) (fun u hu => by
        obtain ⟨a2, r2⟩ := u
        show ([(ad (0, a), .inr (2, [.ref (ad (1, a)), .int (zI ((zU c a (ndI (lin (ar (1, a)) (c a) (ar (1, b)) (c b)) ((c a) + (c b)))) a))])), (ad (1, a), .inl (cI, 64, .inl (zA ((zUA (zUA ar (1, a) a2) (16, 0) r2) (1, a))))), (ad (16, 0), .inl (cI, 64, .inl (zA ((zUA (zUA ar (1, a) a2) (16, 0) r2) (16, 0)))))] : va_W) = _
        rw [show (zU c a (ndI (lin (ar (1, a)) (c a) (ar (1, b)) (c b)) ((c a) + (c b)))) a = ndI (lin (ar (1, a)) (c a) (ar (1, b)) (c b)) ((c a) + (c b)) from zU_s _ _ _, show (zUA (zUA ar (1, a) a2) (16, 0) r2) (1, a) = a2 from by simp [zUA], show (zUA (zUA ar (1, a) a2) (16, 0) r2) (16, 0) = r2 from by simp [zUA]]) (fun u hu k hk => by
        obtain ⟨a2, r2⟩ := u
        by_cases hm : k ∈ [(0, a), (1, a), (16, 0)]
        · exact Or.inl hm
        · refine Or.inr ⟨hk, hm, ?_⟩
          simp only [List.mem_cons, List.not_mem_nil, or_false, not_or] at hm
          exact zY_ext (by simp [zUA, hm]) (fun h0 => zU_n _ _ (fun h1 => hm.1 (Prod.ext h0 h1)))) (cells' := 0) (slots' := 0) rfl rfl (fun u H locs hp_ hF hI hKA hS => ?_)
  obtain ⟨a2, r2⟩ := u
  have hp_ : ∀ k, 0 ≤ k → k < ndI (lin (ar (1, a)) (c a) (ar (1, b)) (c b)) ((c a) + (c b)) → a2 k = dgI (lin (ar (1, a)) (c a) (ar (1, b)) (c b)) k := hp_
  have hF : zFP D (zYK np) (zY cI cW cP cJ ad (zUA (zUA ar (1, a) a2) (16, 0) r2) (zU c a (ndI (lin (ar (1, a)) (c a) (ar (1, b)) (c b)) ((c a) + (c b)))) np pp pn pg o) H := hF
  have hI : zIn (zYK np) (zY cI cW cP cJ ad (zUA (zUA ar (1, a) a2) (16, 0) r2) (zU c a (ndI (lin (ar (1, a)) (c a) (ar (1, b)) (c b)) ((c a) + (c b)))) np pp pn pg o) := hI
  have hrg_ : -2147483648 ≤ ndI (lin (ar (1, a)) (c a) (ar (1, b)) (c b)) ((c a) + (c b)) ∧ ndI (lin (ar (1, a)) (c a) (ar (1, b)) (c b)) ((c a) + (c b)) ≤ 2147483647 := by omega
  refine z_i2l hx hb dL_multiply_10 hrg_ ?_
  refine zw_last hx hb hK hF hI hKA hS (ko := (18, 0)) (zKf 18 rfl rfl) (v := ndI (lin (ar (1, a)) (c a) (ar (1, b)) (c b)) ((c a) + (c b))) rfl 3 rfl dL_multiply_11 (zY cI cW cP cJ ad (zUA (zUA ar (1, a) a2) (16, 0) r2) (zU c a (ndI (lin (ar (1, a)) (c a) (ar (1, b)) (c b)) ((c a) + (c b)))) np pp pn pg (vp_updL o 0 (zL (ndI (lin (ar (1, a)) (c a) (ar (1, b)) (c b)) ((c a) + (c b)))))) (fun k hk hne => zY_out hk hne) rfl (fun H locs hF hI hKA hS => ?_)
  refine lv_goto (tgt := 27) hx hb dL_multiply_12 (by decide) ?_
  refine z_iconst hx hb dL_multiply_27 ?_
  refine W.widen (k := 2) (n := 70) (Nat.le_of_ble_eq_true rfl) (Nat.le_of_ble_eq_true rfl) ?_
  have hv_e : ndI (lin (ar (1, a)) (c a) (ar (1, b)) (c b)) ((c a) + (c b)) = ndI (zLn (zG ar c) c a b) (c a + c b) := by rfl
  rw [hv_e] at hrg_
  have hv_0 : (vp_updL o 0 (zL (ndI (lin (ar (1, a)) (c a) (ar (1, b)) (c b)) ((c a) + (c b))))) 0 = zL (ndI (zLn (zG ar c) c a b) (c a + c b)) := (show vp_updL o 0 (zL (ndI (lin (ar (1, a)) (c a) (ar (1, b)) (c b)) ((c a) + (c b)))) 0 = zL (ndI (lin (ar (1, a)) (c a) (ar (1, b)) (c b)) ((c a) + (c b))) from if_pos rfl).trans (congrArg zL hv_e)
  have hv_1 : ∀ k, 0 ≤ k → k < ndI (zLn (zG ar c) c a b) (c a + c b) → (zUA (zUA ar (1, a) a2) (16, 0) r2) (1, a) k = (dgI (zLn (zG ar c) c a b)) k := by
    intro k h1 h2
    rw [show (zUA (zUA ar (1, a) a2) (16, 0) r2) (1, a) = a2 from by simp [zUA]]
    exact hp_ k h1 h2
  exact zw_iret hx hb hr hlocks (0, vp_updL o 0 (zL (ndI (lin (ar (1, a)) (c a) (ar (1, b)) (c b)) ((c a) + (c b)))), zU c a (ndI (lin (ar (1, a)) (c a) (ar (1, b)) (c b)) ((c a) + (c b))), zUA (zUA ar (1, a) a2) (16, 0) r2) rfl (zWp_mu hv_0 hrg_ rfl hv_1 (fun r hr_ => by simp [zUA, hr_]) (fun j => by simp [zUA])) hF hI hKA hS dL_multiply_28

set_option maxHeartbeats 4000000 in
set_option maxRecDepth 100000 in
theorem w_multiply_B (l : Launch) (hl9 : l.stackTraces = false) (D : va_G) (cI cW cP cJ : ClassId) (ad : zk → Nat) (ar : zk → Int → Int) (c : Int → Int) (np : Int) (pp pn : Int → Int) (pg : Int → Option Nat) (o : Nat → Int64) (a : Int) (b : Int) (t : Int) (hYI : zYI ad ar c np pp pn pg) (hra : 0 ≤ a ∧ a < 4) (hrb : 0 ≤ b ∧ b < 4) (hrt : 0 ≤ t ∧ t < 4) (hwa : ∀ k, 0 ≤ k → k < c a → 0 ≤ ar (1, a) k ∧ ar (1, a) k ≤ 9) (hwb : ∀ k, 0 ≤ k → k < c b → 0 ≤ ar (1, b) k ∧ ar (1, b) k ≤ 9) (hz : c a ≠ 0) (hz2 : c b ≠ 0) (htt : c a + c b ≤ 64) (htb : b = t) (hab : ¬ a = b) : zWC l yL_multiply wsL_multiply D [(cI, .int), (cW, .object RX3), (cP, .object RX2), (cJ, .long)] (zYK np) (zY cI cW cP cJ ad ar c np pp pn pg o) [.ref (ad (4, 0)), .int (zI a), .int (zI b), .int (zI t), .ref (ad (18, 0))] (S := Int × (Nat → Int64) × (Int → Int) × (zk → Int → Int)) (zWp 0 (ndI (zLn (zG ar c) c a b) (c a + c b)) True c ar t (ndI (zLn (zG ar c) c a b) (c a + c b)) (dgI (zLn (zG ar c) c a b))) (fun u => some (.int (zI u.1))) (fun _ => zYK np) (fun u => zY cI cW cP cJ ad u.2.2.2 u.2.2.1 np pp pn pg u.2.1) := by
  obtain ⟨hnp, hcr, hgr, hpl⟩ := hYI
  have hca_ := hcr a hra
  have hcb_ := hcr b hrb
  have hct_ := hcr t hrt
  have hnd := ndI_rng (L := lin (ar (1, a)) (c a) (ar (1, b)) (c b)) (c a + c b) (by omega)
  subst htb
  refine z_startW (cc := cL_multiply) (maxL := 6) (ret := some .int) (hh := [(0, 12, 15, 13), (0, 12, 19, 15), (0, 12, 23, 17)]) (own := RL) (by decide) rfl rfl (Nat.le_of_ble_eq_true rfl) [(0, .ref (ad (4, 0))), (1, .int (zI a)), (2, .int (zI b)), (3, .int (zI b)), (4, .ref (ad (18, 0)))] rfl ?_
  intro pp_ ee s mm below meth cc A0 H ls hX hA0 htab hx hb hr hml hts hown hlocks hK hF hI hKA hS hA hl
  have CF : CallFix pp_ mm cc cL_multiply 6 s ([.ref (ad (4, 0)), .int (zI a), .int (zI b), .int (zI b), .ref (ad (18, 0))] : List Value).toArray wsL_multiply RL := ⟨hx, hb, hml, hown, hts⟩
  refine lv_aload hx hb dL_multiply_0 (lv_at hl 4 rfl) ?_
  refine z_iconst hx hb dL_multiply_2 ?_
  refine lv_aload_n hx hb dL_multiply_3 rfl (lv_at hl 0 rfl) ?_
  refine lv_iload_n hx hb dL_multiply_4 rfl (lv_at hl 1 rfl) ?_
  refine lv_iload_n hx hb dL_multiply_5 rfl (lv_at hl 2 rfl) ?_
  refine lv_iload_n hx hb dL_multiply_6 rfl (lv_at hl 3 rfl) ?_
  have hRc := zf_sub hF [(4, 0), (5, 0), (8, 0), (0, a), (1, a)] (List.forall_mem_cons.mpr ⟨zKf 4 rfl rfl, (List.forall_mem_cons.mpr ⟨zKf 5 rfl rfl, (List.forall_mem_cons.mpr ⟨zKf 8 rfl rfl, (List.forall_mem_cons.mpr ⟨zK0 hra, (List.forall_mem_cons.mpr ⟨zK1 hra, (fun _ h => absurd h List.not_mem_nil)⟩)⟩)⟩)⟩)⟩) (wc := [((ad (4, 0)), .inr (4, [.ref (ad (5, 0)), .ref (ad (6, 0)), .int (zI np), .ref (ad (7, 0)), .ref (ad (8, 0)), .ref (ad (9, 0)), .ref (ad (10, 0))])), ((ad (5, 0)), .inl (cW, 4, .inr (.inr (.inr (.inr (fun k : Nat => (zRg ad) (k : Int))))))), ((ad (8, 0)), .inr (0, [.ref (ad (16, 0)), .ref (ad (17, 0))])), ((ad (0, a)), .inr (2, [.ref (ad (1, a)), .int (zI (c a))])), ((ad (1, a)), .inl (cI, 64, .inl (zA (ar (1, a)))))]) rfl
  have hPc := zf_sub hF [(0, b), (1, b), (16, 0)] (List.forall_mem_cons.mpr ⟨zK0 hrb, (List.forall_mem_cons.mpr ⟨zK1 hrb, (List.forall_mem_cons.mpr ⟨zKf 16 rfl rfl, (fun _ h => absurd h List.not_mem_nil)⟩)⟩)⟩) (wc := [((ad (0, b)), .inr (2, [.ref (ad (1, b)), .int (zI (c b))])), ((ad (1, b)), .inl (cI, 64, .inl (zA (ar (1, b))))), ((ad (16, 0)), .inl (cI, 64, .inl (zA (ar (16, 0)))))]) rfl
  have hDc := zf_subD hI hKA [(0, b), (1, b), (16, 0)] (List.forall_mem_cons.mpr ⟨zK0 hrb, (List.forall_mem_cons.mpr ⟨zK1 hrb, (List.forall_mem_cons.mpr ⟨zKf 16 rfl rfl, (fun _ h => absurd h List.not_mem_nil)⟩)⟩)⟩) (by simp) (wc := [((ad (0, b)), .inr (2, [.ref (ad (1, b)), .int (zI (c b))])), ((ad (1, b)), .inl (cI, 64, .inl (zA (ar (1, b))))), ((ad (16, 0)), .inl (cI, 64, .inl (zA (ar (16, 0)))))]) rfl
  have hXc := zf_dis hI [(0, b), (1, b), (16, 0)] [(4, 0), (5, 0), (8, 0), (0, a), (1, a)] (List.forall_mem_cons.mpr ⟨zK0 hrb, (List.forall_mem_cons.mpr ⟨zK1 hrb, (List.forall_mem_cons.mpr ⟨zKf 16 rfl rfl, (fun _ h => absurd h List.not_mem_nil)⟩)⟩)⟩) (List.forall_mem_cons.mpr ⟨zKf 4 rfl rfl, (List.forall_mem_cons.mpr ⟨zKf 5 rfl rfl, (List.forall_mem_cons.mpr ⟨zKf 8 rfl rfl, (List.forall_mem_cons.mpr ⟨zK0 hra, (List.forall_mem_cons.mpr ⟨zK1 hra, (fun _ h => absurd h List.not_mem_nil)⟩)⟩)⟩)⟩)⟩) (by simp [hab]) (wc := [((ad (0, b)), .inr (2, [.ref (ad (1, b)), .int (zI (c b))])), ((ad (1, b)), .inl (cI, 64, .inl (zA (ar (1, b))))), ((ad (16, 0)), .inl (cI, 64, .inl (zA (ar (16, 0)))))]) (rc := [((ad (4, 0)), .inr (4, [.ref (ad (5, 0)), .ref (ad (6, 0)), .int (zI np), .ref (ad (7, 0)), .ref (ad (8, 0)), .ref (ad (9, 0)), .ref (ad (10, 0))])), ((ad (5, 0)), .inl (cW, 4, .inr (.inr (.inr (.inr (fun k : Nat => (zRg ad) (k : Int))))))), ((ad (8, 0)), .inr (0, [.ref (ad (16, 0)), .ref (ad (17, 0))])), ((ad (0, a)), .inr (2, [.ref (ad (1, a)), .int (zI (c a))])), ((ad (1, a)), .inl (cI, 64, .inl (zA (ar (1, a)))))]) rfl rfl
  refine zf_call (wc := [((ad (0, b)), .inr (2, [.ref (ad (1, b)), .int (zI (c b))])), ((ad (1, b)), .inl (cI, 64, .inl (zA (ar (1, b))))), ((ad (16, 0)), .inl (cI, 64, .inl (zA (ar (16, 0)))))]) (va_runV (As := [.int (zI a), .int (zI b), .int (zI b)]) (rest := [.int (zI 0), .ref (ad (18, 0))]) CF (c_X5_multiply_B l D cI cW cP (ad (4, 0)) (ad (5, 0)) (ad (6, 0)) np (ad (7, 0)) (ad (8, 0)) (ad (9, 0)) (ad (10, 0)) (zRg ad) (ad (16, 0)) (ad (17, 0)) a b b (ad (0, a)) (ad (1, a)) (c a) (ar (1, a)) (ad (0, b)) (ad (1, b)) (c b) (ar (1, b)) (ar (16, 0)) (by first | omega | assumption) (by exact zRg_at hra) (by first | omega | assumption) (by exact zRg_at hrb) (by first | omega | assumption) (by exact zRg_at hrt) (by first | omega | assumption) (by first | omega | assumption) (by first | omega | assumption) (by first | omega | assumption) (by first | omega | assumption) H.size) (cwV 3 hts gL_multiply_X5_multiply rfl rfl rfl (by decide +kernel) ⟨Nat.le_of_ble_eq_true rfl, Nat.le_of_ble_eq_true rfl⟩) (z_preV (va_recv hK hRc (ci := 4) (q0 := 0) rfl rfl) hPc hDc hRc hXc (hK.sub (tys' := [(cI, .int), (cW, .object RX3), (cP, .object RX2)]) [0, 1, 2] rfl)) rfl rfl hl.1 rfl (lv_room (Nat.le_of_ble_eq_true rfl)) dL_multiply_7 ⟨Nat.le_of_ble_eq_true rfl, Nat.le_of_ble_eq_true rfl⟩) hF hI hKA hS hA [(0, b), (1, b), (16, 0)] [(0, b), (1, b), (16, 0)] (List.forall_mem_cons.mpr ⟨zK0 hrb, (List.forall_mem_cons.mpr ⟨zK1 hrb, (List.forall_mem_cons.mpr ⟨zKf 16 rfl rfl, (fun _ h => absurd h List.not_mem_nil)⟩)⟩)⟩) rfl (fun _ => zYK np) (fun (a2, r2) => zY cI cW cP cJ ad (zUA (zUA ar (1, b) a2) (16, 0) r2) (zU c b (ndI (lin (ar (1, a)) (c a) (ar (1, b)) (c b)) ((c a) + (c b)))) np pp pn pg o) (fun u hu => by
        obtain ⟨a2, r2⟩ := u
        show ([(ad (0, b), .inr (2, [.ref (ad (1, b)), .int (zI ((zU c b (ndI (lin (ar (1, a)) (c a) (ar (1, b)) (c b)) ((c a) + (c b)))) b))])), (ad (1, b), .inl (cI, 64, .inl (zA ((zUA (zUA ar (1, b) a2) (16, 0) r2) (1, b))))), (ad (16, 0), .inl (cI, 64, .inl (zA ((zUA (zUA ar (1, b) a2) (16, 0) r2) (16, 0)))))] : va_W) = _
        rw [show (zU c b (ndI (lin (ar (1, a)) (c a) (ar (1, b)) (c b)) ((c a) + (c b)))) b = ndI (lin (ar (1, a)) (c a) (ar (1, b)) (c b)) ((c a) + (c b)) from zU_s _ _ _, show (zUA (zUA ar (1, b) a2) (16, 0) r2) (1, b) = a2 from by simp [zUA], show (zUA (zUA ar (1, b) a2) (16, 0) r2) (16, 0) = r2 from by simp [zUA]]) (fun u hu k hk => by
        obtain ⟨a2, r2⟩ := u
        by_cases hm : k ∈ [(0, b), (1, b), (16, 0)]
        · exact Or.inl hm
        · refine Or.inr ⟨hk, hm, ?_⟩
          simp only [List.mem_cons, List.not_mem_nil, or_false, not_or] at hm
          exact zY_ext (by simp [zUA, hm]) (fun h0 => zU_n _ _ (fun h1 => hm.1 (Prod.ext h0 h1)))) (cells' := 0) (slots' := 0) rfl rfl (fun u H locs hp_ hF hI hKA hS => ?_)
  obtain ⟨a2, r2⟩ := u
  have hp_ : ∀ k, 0 ≤ k → k < ndI (lin (ar (1, a)) (c a) (ar (1, b)) (c b)) ((c a) + (c b)) → a2 k = dgI (lin (ar (1, a)) (c a) (ar (1, b)) (c b)) k := hp_
  have hF : zFP D (zYK np) (zY cI cW cP cJ ad (zUA (zUA ar (1, b) a2) (16, 0) r2) (zU c b (ndI (lin (ar (1, a)) (c a) (ar (1, b)) (c b)) ((c a) + (c b)))) np pp pn pg o) H := hF
  have hI : zIn (zYK np) (zY cI cW cP cJ ad (zUA (zUA ar (1, b) a2) (16, 0) r2) (zU c b (ndI (lin (ar (1, a)) (c a) (ar (1, b)) (c b)) ((c a) + (c b)))) np pp pn pg o) := hI
  have hrg_ : -2147483648 ≤ ndI (lin (ar (1, a)) (c a) (ar (1, b)) (c b)) ((c a) + (c b)) ∧ ndI (lin (ar (1, a)) (c a) (ar (1, b)) (c b)) ((c a) + (c b)) ≤ 2147483647 := by omega
  refine z_i2l hx hb dL_multiply_10 hrg_ ?_
  refine zw_last hx hb hK hF hI hKA hS (ko := (18, 0)) (zKf 18 rfl rfl) (v := ndI (lin (ar (1, a)) (c a) (ar (1, b)) (c b)) ((c a) + (c b))) rfl 3 rfl dL_multiply_11 (zY cI cW cP cJ ad (zUA (zUA ar (1, b) a2) (16, 0) r2) (zU c b (ndI (lin (ar (1, a)) (c a) (ar (1, b)) (c b)) ((c a) + (c b)))) np pp pn pg (vp_updL o 0 (zL (ndI (lin (ar (1, a)) (c a) (ar (1, b)) (c b)) ((c a) + (c b)))))) (fun k hk hne => zY_out hk hne) rfl (fun H locs hF hI hKA hS => ?_)
  refine lv_goto (tgt := 27) hx hb dL_multiply_12 (by decide) ?_
  refine z_iconst hx hb dL_multiply_27 ?_
  refine W.widen (k := 2) (n := 70) (Nat.le_of_ble_eq_true rfl) (Nat.le_of_ble_eq_true rfl) ?_
  have hv_e : ndI (lin (ar (1, a)) (c a) (ar (1, b)) (c b)) ((c a) + (c b)) = ndI (zLn (zG ar c) c a b) (c a + c b) := by rfl
  rw [hv_e] at hrg_
  have hv_0 : (vp_updL o 0 (zL (ndI (lin (ar (1, a)) (c a) (ar (1, b)) (c b)) ((c a) + (c b))))) 0 = zL (ndI (zLn (zG ar c) c a b) (c a + c b)) := (show vp_updL o 0 (zL (ndI (lin (ar (1, a)) (c a) (ar (1, b)) (c b)) ((c a) + (c b)))) 0 = zL (ndI (lin (ar (1, a)) (c a) (ar (1, b)) (c b)) ((c a) + (c b))) from if_pos rfl).trans (congrArg zL hv_e)
  have hv_1 : ∀ k, 0 ≤ k → k < ndI (zLn (zG ar c) c a b) (c a + c b) → (zUA (zUA ar (1, b) a2) (16, 0) r2) (1, b) k = (dgI (zLn (zG ar c) c a b)) k := by
    intro k h1 h2
    rw [show (zUA (zUA ar (1, b) a2) (16, 0) r2) (1, b) = a2 from by simp [zUA]]
    exact hp_ k h1 h2
  exact zw_iret hx hb hr hlocks (0, vp_updL o 0 (zL (ndI (lin (ar (1, a)) (c a) (ar (1, b)) (c b)) ((c a) + (c b)))), zU c b (ndI (lin (ar (1, a)) (c a) (ar (1, b)) (c b)) ((c a) + (c b))), zUA (zUA ar (1, b) a2) (16, 0) r2) rfl (zWp_mu hv_0 hrg_ rfl hv_1 (fun r hr_ => by simp [zUA, hr_]) (fun j => by simp [zUA])) hF hI hKA hS dL_multiply_28

set_option maxHeartbeats 4000000 in
set_option maxRecDepth 100000 in
theorem w_multiply_S (l : Launch) (hl9 : l.stackTraces = false) (D : va_G) (cI cW cP cJ : ClassId) (ad : zk → Nat) (ar : zk → Int → Int) (c : Int → Int) (np : Int) (pp pn : Int → Int) (pg : Int → Option Nat) (o : Nat → Int64) (a : Int) (b : Int) (t : Int) (hYI : zYI ad ar c np pp pn pg) (hra : 0 ≤ a ∧ a < 4) (hrb : 0 ≤ b ∧ b < 4) (hrt : 0 ≤ t ∧ t < 4) (hwa : ∀ k, 0 ≤ k → k < c a → 0 ≤ ar (1, a) k ∧ ar (1, a) k ≤ 9) (hwb : ∀ k, 0 ≤ k → k < c b → 0 ≤ ar (1, b) k ∧ ar (1, b) k ≤ 9) (hz : c a ≠ 0) (hz2 : c b ≠ 0) (htt : c a + c b ≤ 64) (hta : a = t) (hba : a = b) : zWC l yL_multiply wsL_multiply D [(cI, .int), (cW, .object RX3), (cP, .object RX2), (cJ, .long)] (zYK np) (zY cI cW cP cJ ad ar c np pp pn pg o) [.ref (ad (4, 0)), .int (zI a), .int (zI b), .int (zI t), .ref (ad (18, 0))] (S := Int × (Nat → Int64) × (Int → Int) × (zk → Int → Int)) (zWp 0 (ndI (zLn (zG ar c) c a b) (c a + c b)) True c ar t (ndI (zLn (zG ar c) c a b) (c a + c b)) (dgI (zLn (zG ar c) c a b))) (fun u => some (.int (zI u.1))) (fun _ => zYK np) (fun u => zY cI cW cP cJ ad u.2.2.2 u.2.2.1 np pp pn pg u.2.1) := by
  obtain ⟨hnp, hcr, hgr, hpl⟩ := hYI
  have hca_ := hcr a hra
  have hcb_ := hcr b hrb
  have hct_ := hcr t hrt
  have hnd := ndI_rng (L := lin (ar (1, a)) (c a) (ar (1, a)) (c a)) (c a + c a) (by omega)
  subst hta
  subst hba
  refine z_startW (cc := cL_multiply) (maxL := 6) (ret := some .int) (hh := [(0, 12, 15, 13), (0, 12, 19, 15), (0, 12, 23, 17)]) (own := RL) (by decide) rfl rfl (Nat.le_of_ble_eq_true rfl) [(0, .ref (ad (4, 0))), (1, .int (zI a)), (2, .int (zI a)), (3, .int (zI a)), (4, .ref (ad (18, 0)))] rfl ?_
  intro pp_ ee s mm below meth cc A0 H ls hX hA0 htab hx hb hr hml hts hown hlocks hK hF hI hKA hS hA hl
  have CF : CallFix pp_ mm cc cL_multiply 6 s ([.ref (ad (4, 0)), .int (zI a), .int (zI a), .int (zI a), .ref (ad (18, 0))] : List Value).toArray wsL_multiply RL := ⟨hx, hb, hml, hown, hts⟩
  refine lv_aload hx hb dL_multiply_0 (lv_at hl 4 rfl) ?_
  refine z_iconst hx hb dL_multiply_2 ?_
  refine lv_aload_n hx hb dL_multiply_3 rfl (lv_at hl 0 rfl) ?_
  refine lv_iload_n hx hb dL_multiply_4 rfl (lv_at hl 1 rfl) ?_
  refine lv_iload_n hx hb dL_multiply_5 rfl (lv_at hl 2 rfl) ?_
  refine lv_iload_n hx hb dL_multiply_6 rfl (lv_at hl 3 rfl) ?_
  have hRc := zf_sub hF [(4, 0), (5, 0), (8, 0)] (List.forall_mem_cons.mpr ⟨zKf 4 rfl rfl, (List.forall_mem_cons.mpr ⟨zKf 5 rfl rfl, (List.forall_mem_cons.mpr ⟨zKf 8 rfl rfl, (fun _ h => absurd h List.not_mem_nil)⟩)⟩)⟩) (wc := [((ad (4, 0)), .inr (4, [.ref (ad (5, 0)), .ref (ad (6, 0)), .int (zI np), .ref (ad (7, 0)), .ref (ad (8, 0)), .ref (ad (9, 0)), .ref (ad (10, 0))])), ((ad (5, 0)), .inl (cW, 4, .inr (.inr (.inr (.inr (fun k : Nat => (zRg ad) (k : Int))))))), ((ad (8, 0)), .inr (0, [.ref (ad (16, 0)), .ref (ad (17, 0))]))]) rfl
  have hPc := zf_sub hF [(0, a), (1, a), (16, 0)] (List.forall_mem_cons.mpr ⟨zK0 hra, (List.forall_mem_cons.mpr ⟨zK1 hra, (List.forall_mem_cons.mpr ⟨zKf 16 rfl rfl, (fun _ h => absurd h List.not_mem_nil)⟩)⟩)⟩) (wc := [((ad (0, a)), .inr (2, [.ref (ad (1, a)), .int (zI (c a))])), ((ad (1, a)), .inl (cI, 64, .inl (zA (ar (1, a))))), ((ad (16, 0)), .inl (cI, 64, .inl (zA (ar (16, 0)))))]) rfl
  have hDc := zf_subD hI hKA [(0, a), (1, a), (16, 0)] (List.forall_mem_cons.mpr ⟨zK0 hra, (List.forall_mem_cons.mpr ⟨zK1 hra, (List.forall_mem_cons.mpr ⟨zKf 16 rfl rfl, (fun _ h => absurd h List.not_mem_nil)⟩)⟩)⟩) (by simp) (wc := [((ad (0, a)), .inr (2, [.ref (ad (1, a)), .int (zI (c a))])), ((ad (1, a)), .inl (cI, 64, .inl (zA (ar (1, a))))), ((ad (16, 0)), .inl (cI, 64, .inl (zA (ar (16, 0)))))]) rfl
  have hXc := zf_dis hI [(0, a), (1, a), (16, 0)] [(4, 0), (5, 0), (8, 0)] (List.forall_mem_cons.mpr ⟨zK0 hra, (List.forall_mem_cons.mpr ⟨zK1 hra, (List.forall_mem_cons.mpr ⟨zKf 16 rfl rfl, (fun _ h => absurd h List.not_mem_nil)⟩)⟩)⟩) (List.forall_mem_cons.mpr ⟨zKf 4 rfl rfl, (List.forall_mem_cons.mpr ⟨zKf 5 rfl rfl, (List.forall_mem_cons.mpr ⟨zKf 8 rfl rfl, (fun _ h => absurd h List.not_mem_nil)⟩)⟩)⟩) (by simp) (wc := [((ad (0, a)), .inr (2, [.ref (ad (1, a)), .int (zI (c a))])), ((ad (1, a)), .inl (cI, 64, .inl (zA (ar (1, a))))), ((ad (16, 0)), .inl (cI, 64, .inl (zA (ar (16, 0)))))]) (rc := [((ad (4, 0)), .inr (4, [.ref (ad (5, 0)), .ref (ad (6, 0)), .int (zI np), .ref (ad (7, 0)), .ref (ad (8, 0)), .ref (ad (9, 0)), .ref (ad (10, 0))])), ((ad (5, 0)), .inl (cW, 4, .inr (.inr (.inr (.inr (fun k : Nat => (zRg ad) (k : Int))))))), ((ad (8, 0)), .inr (0, [.ref (ad (16, 0)), .ref (ad (17, 0))]))]) rfl rfl
  refine zf_call (wc := [((ad (0, a)), .inr (2, [.ref (ad (1, a)), .int (zI (c a))])), ((ad (1, a)), .inl (cI, 64, .inl (zA (ar (1, a))))), ((ad (16, 0)), .inl (cI, 64, .inl (zA (ar (16, 0)))))]) (va_runV (As := [.int (zI a), .int (zI a), .int (zI a)]) (rest := [.int (zI 0), .ref (ad (18, 0))]) CF (c_X5_multiply_S l D cI cW cP (ad (4, 0)) (ad (5, 0)) (ad (6, 0)) np (ad (7, 0)) (ad (8, 0)) (ad (9, 0)) (ad (10, 0)) (zRg ad) (ad (16, 0)) (ad (17, 0)) a a a (ad (0, a)) (ad (1, a)) (c a) (ar (1, a)) (ar (16, 0)) (by first | omega | assumption) (by exact zRg_at hra) (by first | omega | assumption) (by exact zRg_at hrb) (by first | omega | assumption) (by exact zRg_at hrt) (by first | omega | assumption) (by first | omega | assumption) (by first | omega | assumption) H.size) (cwV 3 hts gL_multiply_X5_multiply rfl rfl rfl (by decide +kernel) ⟨Nat.le_of_ble_eq_true rfl, Nat.le_of_ble_eq_true rfl⟩) (z_preV (va_recv hK hRc (ci := 4) (q0 := 0) rfl rfl) hPc hDc hRc hXc (hK.sub (tys' := [(cI, .int), (cW, .object RX3), (cP, .object RX2)]) [0, 1, 2] rfl)) rfl rfl hl.1 rfl (lv_room (Nat.le_of_ble_eq_true rfl)) dL_multiply_7 ⟨Nat.le_of_ble_eq_true rfl, Nat.le_of_ble_eq_true rfl⟩) hF hI hKA hS hA [(0, a), (1, a), (16, 0)] [(0, a), (1, a), (16, 0)] (List.forall_mem_cons.mpr ⟨zK0 hra, (List.forall_mem_cons.mpr ⟨zK1 hra, (List.forall_mem_cons.mpr ⟨zKf 16 rfl rfl, (fun _ h => absurd h List.not_mem_nil)⟩)⟩)⟩) rfl (fun _ => zYK np) (fun (a2, r2) => zY cI cW cP cJ ad (zUA (zUA ar (1, a) a2) (16, 0) r2) (zU c a (ndI (lin (ar (1, a)) (c a) (ar (1, a)) (c a)) ((c a) + (c a)))) np pp pn pg o) (fun u hu => by
        obtain ⟨a2, r2⟩ := u
        show ([(ad (0, a), .inr (2, [.ref (ad (1, a)), .int (zI ((zU c a (ndI (lin (ar (1, a)) (c a) (ar (1, a)) (c a)) ((c a) + (c a)))) a))])), (ad (1, a), .inl (cI, 64, .inl (zA ((zUA (zUA ar (1, a) a2) (16, 0) r2) (1, a))))), (ad (16, 0), .inl (cI, 64, .inl (zA ((zUA (zUA ar (1, a) a2) (16, 0) r2) (16, 0)))))] : va_W) = _
        rw [show (zU c a (ndI (lin (ar (1, a)) (c a) (ar (1, a)) (c a)) ((c a) + (c a)))) a = ndI (lin (ar (1, a)) (c a) (ar (1, a)) (c a)) ((c a) + (c a)) from zU_s _ _ _, show (zUA (zUA ar (1, a) a2) (16, 0) r2) (1, a) = a2 from by simp [zUA], show (zUA (zUA ar (1, a) a2) (16, 0) r2) (16, 0) = r2 from by simp [zUA]]) (fun u hu k hk => by
        obtain ⟨a2, r2⟩ := u
        by_cases hm : k ∈ [(0, a), (1, a), (16, 0)]
        · exact Or.inl hm
        · refine Or.inr ⟨hk, hm, ?_⟩
          simp only [List.mem_cons, List.not_mem_nil, or_false, not_or] at hm
          exact zY_ext (by simp [zUA, hm]) (fun h0 => zU_n _ _ (fun h1 => hm.1 (Prod.ext h0 h1)))) (cells' := 0) (slots' := 0) rfl rfl (fun u H locs hp_ hF hI hKA hS => ?_)
  obtain ⟨a2, r2⟩ := u
  have hp_ : ∀ k, 0 ≤ k → k < ndI (lin (ar (1, a)) (c a) (ar (1, a)) (c a)) ((c a) + (c a)) → a2 k = dgI (lin (ar (1, a)) (c a) (ar (1, a)) (c a)) k := hp_
  have hF : zFP D (zYK np) (zY cI cW cP cJ ad (zUA (zUA ar (1, a) a2) (16, 0) r2) (zU c a (ndI (lin (ar (1, a)) (c a) (ar (1, a)) (c a)) ((c a) + (c a)))) np pp pn pg o) H := hF
  have hI : zIn (zYK np) (zY cI cW cP cJ ad (zUA (zUA ar (1, a) a2) (16, 0) r2) (zU c a (ndI (lin (ar (1, a)) (c a) (ar (1, a)) (c a)) ((c a) + (c a)))) np pp pn pg o) := hI
  have hrg_ : -2147483648 ≤ ndI (lin (ar (1, a)) (c a) (ar (1, a)) (c a)) ((c a) + (c a)) ∧ ndI (lin (ar (1, a)) (c a) (ar (1, a)) (c a)) ((c a) + (c a)) ≤ 2147483647 := by omega
  refine z_i2l hx hb dL_multiply_10 hrg_ ?_
  refine zw_last hx hb hK hF hI hKA hS (ko := (18, 0)) (zKf 18 rfl rfl) (v := ndI (lin (ar (1, a)) (c a) (ar (1, a)) (c a)) ((c a) + (c a))) rfl 3 rfl dL_multiply_11 (zY cI cW cP cJ ad (zUA (zUA ar (1, a) a2) (16, 0) r2) (zU c a (ndI (lin (ar (1, a)) (c a) (ar (1, a)) (c a)) ((c a) + (c a)))) np pp pn pg (vp_updL o 0 (zL (ndI (lin (ar (1, a)) (c a) (ar (1, a)) (c a)) ((c a) + (c a)))))) (fun k hk hne => zY_out hk hne) rfl (fun H locs hF hI hKA hS => ?_)
  refine lv_goto (tgt := 27) hx hb dL_multiply_12 (by decide) ?_
  refine z_iconst hx hb dL_multiply_27 ?_
  refine W.widen (k := 2) (n := 70) (Nat.le_of_ble_eq_true rfl) (Nat.le_of_ble_eq_true rfl) ?_
  have hv_e : ndI (lin (ar (1, a)) (c a) (ar (1, a)) (c a)) ((c a) + (c a)) = ndI (zLn (zG ar c) c a a) (c a + c a) := by rfl
  rw [hv_e] at hrg_
  have hv_0 : (vp_updL o 0 (zL (ndI (lin (ar (1, a)) (c a) (ar (1, a)) (c a)) ((c a) + (c a))))) 0 = zL (ndI (zLn (zG ar c) c a a) (c a + c a)) := (show vp_updL o 0 (zL (ndI (lin (ar (1, a)) (c a) (ar (1, a)) (c a)) ((c a) + (c a)))) 0 = zL (ndI (lin (ar (1, a)) (c a) (ar (1, a)) (c a)) ((c a) + (c a))) from if_pos rfl).trans (congrArg zL hv_e)
  have hv_1 : ∀ k, 0 ≤ k → k < ndI (zLn (zG ar c) c a a) (c a + c a) → (zUA (zUA ar (1, a) a2) (16, 0) r2) (1, a) k = (dgI (zLn (zG ar c) c a a)) k := by
    intro k h1 h2
    rw [show (zUA (zUA ar (1, a) a2) (16, 0) r2) (1, a) = a2 from by simp [zUA]]
    exact hp_ k h1 h2
  exact zw_iret hx hb hr hlocks (0, vp_updL o 0 (zL (ndI (lin (ar (1, a)) (c a) (ar (1, a)) (c a)) ((c a) + (c a)))), zU c a (ndI (lin (ar (1, a)) (c a) (ar (1, a)) (c a)) ((c a) + (c a))), zUA (zUA ar (1, a) a2) (16, 0) r2) rfl (zWp_mu hv_0 hrg_ rfl hv_1 (fun r hr_ => by simp [zUA, hr_]) (fun j => by simp [zUA])) hF hI hKA hS dL_multiply_28

end WR
