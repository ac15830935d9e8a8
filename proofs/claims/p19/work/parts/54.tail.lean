/-! THE CLAIM OUT OF ONE WALK OF THE LAW'S BODY. Your part is whole_start (and what it stands on); all else here is the same for every law, but numbers. -/
def R_law : String := "ButterflyYardLaw"
def lw_P (b : Addr) (xs : List Int32) (args : Array Value) (s : State) : Prop := args = #[.ref b] ∧ s.IntsAt b xs ∧ xs.length ≤ 260 ∧ (Jvm.Cond.and given_1 narrow_1).before args s = true
def lw_Q (_ : Array Value) (s : State) (o : Outcome) (t : State) : Prop := o = .returned (some (.int 1)) ∧ Framed s o t [] 600086 7301442
def lw_Z (below : List Frame) (a : Array Value) (s : State) : State → Prop := fun t => ∃ o, t.status = .running ∧ Ended t below o ∧ lw_Q a s o t
/-- the law's own end, with 1 on the stack, nothing written that was there before, its room as the claim has it -/
theorem lw_ret {p : Program} {l : Launch} {e : Env} {s : State} {m : MethodId} {below : List Frame} {meth : Method} {c : Code} {b : Nat} (hx : p.tables.exec = Jvm.exec) (hb : c.code = code) (hr : meth.sig.returnType = ret) (hlocks : meth.locks = false) {pc : Nat} {H : Heap} {ls : Array Slot} (hdg : decode code pc = .ok (.ireturn, 1)) : W p l e room_1 s m #[Value.ref b] below meth c H [] 600086 7301442 (lw_Z below #[Value.ref b] s) (F0 m pc ls [.int 1]) := by
  intro T hT X
  obtain ⟨fs, hret, hrun, hended, hW, hframe⟩ := X.leave (v := some (.int 1)) (hlocks := hlocks) (fun h => by rw [hr] at h; cases h)
  have hmeth' : T.vm.method? m = some meth := X.method'
  refine ⟨T.setFrames fs, ?_, .returned (some (.int 1)), hrun, hended, rfl, ⟨_, rfl⟩, hW, hframe⟩
  jvm_step X.here [X.here.top, hx, hb, hdg, hmeth', hr, ret, narrow_b1]
  (try refine ⟨rfl, ?_⟩); (try refine ⟨rfl, ?_⟩)
  first | (intro acts; rw [hret _ acts rfl rfl rfl]) | rw [hret _ _ rfl rfl rfl]
  exact Steps.refl _
/-- what holds at the law's entry: the machine, the code, the tables' words (any of lw_tbl by 'hts w (by decide +kernel)'), the script of L ints xs at the cell b, what the Statement gives of the start (any of its parts by flat_of_before) -/
def lw_At (p : Program) (s : State) (m : MethodId) (meth : Method) (c : Code) (b L : Nat) (xs : Nat → Int32) : Prop :=
  p.tables.exec = Jvm.exec ∧ c.code = code ∧ meth.sig.returnType = ret ∧ c.maxLocals = 9 ∧ s.vm.findClass R_law = some m.cls ∧ (∀ w ∈ lw_tbl, w.before #[Value.ref b] s = true) ∧ va_X b L xs s s.heap ∧ b < s.heap.size ∧ meth.locks = false ∧ (Jvm.Cond.and given_1 narrow_1).before #[Value.ref b] s = true
section LT
set_option maxHeartbeats 4000000 in
set_option maxRecDepth 100000 in
theorem law_tail {p_ : Program} {l : Launch} {e_ : Env} {s : State} {m_ : MethodId} {below : List Frame} {meth : Method} {cd : Code} {b L : Nat} {xs : Nat → Int32} {D : va_G} {cI cW cP : ClassId} {ad : zk → Nat} {np : Int} {pp pn : Int → Int} {pg : Int → Option Nat} {A : Nat → Prop} (hx : p_.tables.exec = Jvm.exec) (hb : cd.code = code) (hr : meth.sig.returnType = ret) (hml : cd.maxLocals = 9) (hown : s.vm.findClass RL = some m_.cls) (hts : ∀ w ∈ wsL_law, w.before #[Value.ref b] s = true) (hlocks : meth.locks = false) (hK : va_K D vwCl (yT cI cW cP) s) (hX : va_X b L xs s s.heap) (hbl : b < s.heap.size) (hE : yE ad np b L) (hAe : A = yFr ad np s.heap.size) (hA0 : A = fun q : Nat => s.heap.size ≤ q) (hnp : np = 4) (hpp : pp 0 = 61 ∧ pp 1 = 7681 ∧ pp 2 = 367 ∧ pp 3 = 9973) (hpn : pn 0 = 60 ∧ pn 1 = 64 ∧ pn 2 = 61 ∧ pn 3 = 36) {c : Int → Int} {G : Int → Int → Int} {H : Heap} {locs : List Loc} {ls : Array Slot} (hY : yS D cI cW cP ad np pp pn pg c G H) (hS : va_S A s.heap H locs) (hl : lv_has ls 9 [(0, .ref b), (1, .ref (ad (4, 0)))]) : W p_ l e_ room_1 s m_ #[Value.ref b] below meth cd H locs 40 2000 (lw_Z below #[Value.ref b] s) (F0 m_ 58 ls []) := by
  have hbA : ¬ A b := by rw [hA0]; exact Nat.not_le.mpr hbl
  have CF : CallFix p_ m_ cd code 9 s #[Value.ref b] wsL_law RL := ⟨hx, hb, hml, hown, hts⟩
  refine lv_aload_n hx hb dL_law_58 rfl (lv_at hl 1 rfl) ?_
  refine z_iconst hx hb dL_law_59 ?_
  refine yc_call (va_runV (As := [.int (zI 0)]) (rest := []) CF (y_ways l D cI cW cP ad np pp pn pg b L xs hE c G 0 (by omega) H.size) (cwV 1 hts gL_law_X5_ways rfl rfl rfl (by decide +kernel) ⟨Nat.le_of_ble_eq_true rfl, Nat.le_of_ble_eq_true rfl⟩) (yc_preV hK hX hbl hbA hS hY) rfl rfl hl.1 rfl (lv_room (Nat.le_of_ble_eq_true rfl)) dL_law_60 ⟨Nat.le_of_ble_eq_true rfl, Nat.le_of_ble_eq_true rfl⟩) hAe hS (fun v_60 c_60 G_60 H locs hp_60 hY hS => ?_)
  obtain ⟨rfl, rfl, rfl⟩ := hp_60
  refine z_eqI (b := 23) (by rw [hpn.1]; exact ws_all.1) ?_
  refine z_bipush hx hb dL_law_63 (by decide) ?_
  refine z_icmp_ne (tgt := 102) hx hb dL_law_65 (by decide) (by omega) (fun c_65 => absurd c_65 (by omega)) (fun c_65 => ?_)
  refine lv_aload_n hx hb dL_law_68 rfl (lv_at hl 1 rfl) ?_
  refine z_iconst hx hb dL_law_69 ?_
  refine yc_call (va_runV (As := [.int (zI 1)]) (rest := []) CF (y_ways l D cI cW cP ad np pp pn pg b L xs hE c G 1 (by omega) H.size) (cwV 1 hts gL_law_X5_ways rfl rfl rfl (by decide +kernel) ⟨Nat.le_of_ble_eq_true rfl, Nat.le_of_ble_eq_true rfl⟩) (yc_preV hK hX hbl hbA hS hY) rfl rfl hl.1 rfl (lv_room (Nat.le_of_ble_eq_true rfl)) dL_law_70 ⟨Nat.le_of_ble_eq_true rfl, Nat.le_of_ble_eq_true rfl⟩) hAe hS (fun v_70 c_70 G_70 H locs hp_70 hY hS => ?_)
  obtain ⟨rfl, rfl, rfl⟩ := hp_70
  refine z_eqI (b := 19) (by rw [hpn.2.1]; exact ws_all.2.1) ?_
  refine z_bipush hx hb dL_law_73 (by decide) ?_
  refine z_icmp_ne (tgt := 102) hx hb dL_law_75 (by decide) (by omega) (fun c_75 => absurd c_75 (by omega)) (fun c_75 => ?_)
  refine lv_aload_n hx hb dL_law_78 rfl (lv_at hl 1 rfl) ?_
  refine z_iconst hx hb dL_law_79 ?_
  refine yc_call (va_runV (As := [.int (zI 2)]) (rest := []) CF (y_ways l D cI cW cP ad np pp pn pg b L xs hE c G 2 (by omega) H.size) (cwV 1 hts gL_law_X5_ways rfl rfl rfl (by decide +kernel) ⟨Nat.le_of_ble_eq_true rfl, Nat.le_of_ble_eq_true rfl⟩) (yc_preV hK hX hbl hbA hS hY) rfl rfl hl.1 rfl (lv_room (Nat.le_of_ble_eq_true rfl)) dL_law_80 ⟨Nat.le_of_ble_eq_true rfl, Nat.le_of_ble_eq_true rfl⟩) hAe hS (fun v_80 c_80 G_80 H locs hp_80 hY hS => ?_)
  obtain ⟨rfl, rfl, rfl⟩ := hp_80
  refine z_eqI (b := 27) (by rw [hpn.2.2.1]; exact ws_all.2.2.1) ?_
  refine z_bipush hx hb dL_law_83 (by decide) ?_
  refine z_icmp_ne (tgt := 102) hx hb dL_law_85 (by decide) (by omega) (fun c_85 => absurd c_85 (by omega)) (fun c_85 => ?_)
  refine lv_aload_n hx hb dL_law_88 rfl (lv_at hl 1 rfl) ?_
  refine z_iconst hx hb dL_law_89 ?_
  refine yc_call (va_runV (As := [.int (zI 3)]) (rest := []) CF (y_ways l D cI cW cP ad np pp pn pg b L xs hE c G 3 (by omega) H.size) (cwV 1 hts gL_law_X5_ways rfl rfl rfl (by decide +kernel) ⟨Nat.le_of_ble_eq_true rfl, Nat.le_of_ble_eq_true rfl⟩) (yc_preV hK hX hbl hbA hS hY) rfl rfl hl.1 rfl (lv_room (Nat.le_of_ble_eq_true rfl)) dL_law_90 ⟨Nat.le_of_ble_eq_true rfl, Nat.le_of_ble_eq_true rfl⟩) hAe hS (fun v_90 c_90 G_90 H locs hp_90 hY hS => ?_)
  obtain ⟨rfl, rfl, rfl⟩ := hp_90
  refine z_eqI (b := 23) (by rw [hpn.2.2.2]; exact ws_all.2.2.2) ?_
  refine z_bipush hx hb dL_law_93 (by decide) ?_
  refine z_icmp_ne (tgt := 102) hx hb dL_law_95 (by decide) (by omega) (fun c_95 => absurd c_95 (by omega)) (fun c_95 => ?_)
  refine z_iconst hx hb dL_law_98 ?_
  refine lv_goto (tgt := 103) hx hb dL_law_99 (by decide) ?_
  refine lv_istore_n (lv' := [(2, .int (zI 1)), (0, .ref b), (1, .ref (ad (4, 0)))]) hx hb dL_law_103 rfl hl (by decide) rfl (fun ls hl => ?_)
  have hl := lv_sub hl [1, 2, 0] rfl
  have hl : lv_has ls 9 [(0, .ref b), (1, .ref (ad (4, 0))), (2, .int (zI 1))] := hl
  refine z_iconst hx hb dL_law_104 ?_
  refine lv_istore_n (lv' := [(3, .int (zI 0)), (0, .ref b), (1, .ref (ad (4, 0))), (2, .int (zI 1))]) hx hb dL_law_105 rfl hl (by decide) rfl (fun ls hl => ?_)
  have hl := lv_sub hl [1, 2, 3, 0] rfl
  have hl : lv_has ls 9 [(0, .ref b), (1, .ref (ad (4, 0))), (2, .int (zI 1)), (3, .int (zI 0))] := hl
  refine z_loop (σ := Int × (Int → Int) × (Int → Int → Int)) (fun (t, c_L106, G_L106) => (12 - t).toNat) (fun (t, c_L106, G_L106) H locs ls => (0 ≤ t ∧ t ≤ 12) ∧ (yS D cI cW cP ad np pp pn pg c_L106 G_L106 H) ∧ (va_S A s.heap H locs) ∧ (lv_has ls 9 [(0, .ref b), (1, .ref (ad (4, 0))), (2, .int (zI 1)), (3, .int (zI t))])) (0, c, G) ⟨(by omega), hY, hS, hl⟩ ?_
  intro ⟨t, c_L106, G_L106⟩ H locs ls hI ih_106
  obtain ⟨ht_, hY, hS, hl⟩ := hI
  refine lv_iload_n hx hb dL_law_106 rfl (lv_at hl 3 rfl) ?_
  refine z_bipush hx hb dL_law_107 (by decide) ?_
  refine z_icmp_ge (tgt := 297) hx hb dL_law_109 (by decide) (by omega) (fun c_109 => ?_) (fun c_109 => ?_)
  · refine lv_iload_n hx hb dL_law_297 rfl (lv_at hl 2 rfl) ?_
    refine z_if_eq (tgt := 313) hx hb dL_law_298 (by decide) (by omega) (fun c_298 => absurd c_298 (by omega)) (fun c_298 => ?_)
    refine lv_aload_n hx hb dL_law_301 rfl (lv_at hl 1 rfl) ?_
    refine yc_call (va_runV (As := []) (rest := []) CF (y_plans l D cI cW cP ad np pp pn pg b L xs hE c_L106 G_L106 H.size) (cwV 0 hts gL_law_X5_plans rfl rfl rfl (by decide +kernel) ⟨Nat.le_of_ble_eq_true rfl, Nat.le_of_ble_eq_true rfl⟩) (yc_preV hK hX hbl hbA hS hY) rfl rfl hl.1 rfl (lv_room (Nat.le_of_ble_eq_true rfl)) dL_law_302 ⟨Nat.le_of_ble_eq_true rfl, Nat.le_of_ble_eq_true rfl⟩) hAe hS (fun v_302 c_302 G_302 H locs hp_302 hY hS => ?_)
    obtain ⟨rfl, rfl, rfl⟩ := hp_302
    refine z_iconst hx hb dL_law_305 ?_
    refine z_icmp_ne (tgt := 313) hx hb dL_law_306 (by decide) (by omega) (fun c_306 => absurd c_306 (by omega)) (fun c_306 => ?_)
    refine z_iconst hx hb dL_law_309 ?_
    refine lv_goto (tgt := 314) hx hb dL_law_310 (by decide) ?_
    rw [hA0] at hS
    refine va_forget hS.2.2 ?_
    refine W.widen (k := 600086) (n := 7301442) (Nat.le_of_ble_eq_true rfl) (Nat.le_of_ble_eq_true rfl) ?_
    rw [show zI 1 = (1 : Int32) from rfl]
    exact lw_ret hx hb hr hlocks dL_law_314
  · refine lv_iload_n hx hb dL_law_112 rfl (lv_at hl 2 rfl) ?_
    refine z_if_eq (tgt := 297) hx hb dL_law_113 (by decide) (by omega) (fun c_113 => absurd c_113 (by omega)) (fun c_113 => ?_)
    refine lv_aload_n hx hb dL_law_116 rfl (lv_at hl 0 rfl) ?_
    refine lv_iload_n hx hb dL_law_117 rfl (lv_at hl 3 rfl) ?_
    refine z_sipush hx hb dL_law_118 (by decide) ?_
    refine yc_call (va_runS (As := [.ref b, .int (zI t), .int (zI 30000)]) (rest := []) CF (q_drawn l D cI cW cP ad np pp pn pg b L xs hE c_L106 G_L106 t 30000 (by omega) (by omega) H.size) (va_cwS 3 hts gL_law_L_drawn rfl rfl rfl (by decide +kernel) ⟨Nat.le_of_ble_eq_true rfl, Nat.le_of_ble_eq_true rfl⟩) (yc_preS hK hX hbl hbA hS hY) rfl rfl hl.1 rfl (lv_room (Nat.le_of_ble_eq_true rfl)) dL_law_121 ⟨Nat.le_of_ble_eq_true rfl, Nat.le_of_ble_eq_true rfl⟩) hAe hS (fun v_121 c_121 G_121 H locs hp_121 hY hS => ?_)
    obtain ⟨hv0_121, rfl, rfl⟩ := hp_121
    refine lv_istore (lv' := [(4, .int (zI v_121)), (0, .ref b), (1, .ref (ad (4, 0))), (2, .int (zI 1)), (3, .int (zI t))]) hx hb dL_law_124 hl (by decide) rfl (fun ls hl => ?_)
    have hl := lv_sub hl [1, 2, 3, 4, 0] rfl
    have hl : lv_has ls 9 [(0, .ref b), (1, .ref (ad (4, 0))), (2, .int (zI 1)), (3, .int (zI t)), (4, .int (zI v_121))] := hl
    refine lv_iload_n hx hb dL_law_126 rfl (lv_at hl 3 rfl) ?_
    refine z_iconst hx hb dL_law_127 ?_
    refine z_irem hx hb dL_law_128 (by omega) (by omega) ?_
    have hm_128 := z_rem (a := t) (n := 4) (by omega)
    refine z_nameI (fun pl e_pl => ?_)
    refine lv_istore (lv' := [(5, .int (zI pl)), (0, .ref b), (1, .ref (ad (4, 0))), (2, .int (zI 1)), (3, .int (zI t)), (4, .int (zI v_121))]) hx hb dL_law_129 hl (by decide) rfl (fun ls hl => ?_)
    have hl := lv_sub hl [1, 2, 3, 4, 5, 0] rfl
    have hl : lv_has ls 9 [(0, .ref b), (1, .ref (ad (4, 0))), (2, .int (zI 1)), (3, .int (zI t)), (4, .int (zI v_121)), (5, .int (zI pl))] := hl
    have hplr : 0 ≤ pl ∧ pl ≤ 3 := by omega
    have kk : ∀ (n p : Int) (ls : Array Slot), pn pl = n → pp pl = p → 36 ≤ n ∧ n ≤ 64 ∧ 3 ≤ p ∧ p ≤ 9973 → lv_has ls 9 [(0, .ref b), (1, .ref (ad (4, 0))), (2, .int (zI 1)), (3, .int (zI t)), (4, .int (zI v_121)), (5, .int (zI pl)), (6, .int (zI n)), (7, .int (zI p))] → W p_ l e_ room_1 s m_ #[Value.ref b] below meth cd H locs 40 2000 (lw_Z below #[Value.ref b] s) (F0 m_ 206 ls []) := by
      intro n p ls hn_ hp_ hnp_ hl
      refine lv_iload hx hb dL_law_206 (lv_at hl 4 rfl) ?_
      refine z_iconst hx hb dL_law_208 ?_
      refine z_irem hx hb dL_law_209 (by omega) (by omega) ?_
      have hm_209 := z_rem (a := v_121) (n := 5) (by omega)
      refine z_nameI (fun w e_w => ?_)
      refine lv_istore (lv' := [(8, .int (zI w)), (0, .ref b), (1, .ref (ad (4, 0))), (2, .int (zI 1)), (3, .int (zI t)), (4, .int (zI v_121)), (5, .int (zI pl)), (6, .int (zI n)), (7, .int (zI p))]) hx hb dL_law_210 hl (by decide) rfl (fun ls hl => ?_)
      have hl := lv_sub hl [1, 2, 3, 4, 5, 6, 7, 8, 0] rfl
      have hl : lv_has ls 9 [(0, .ref b), (1, .ref (ad (4, 0))), (2, .int (zI 1)), (3, .int (zI t)), (4, .int (zI v_121)), (5, .int (zI pl)), (6, .int (zI n)), (7, .int (zI p)), (8, .int (zI w))] := hl
      have hwr : 0 ≤ w ∧ w ≤ 4 := by omega
      clear e_w hm_209
      refine lv_aload_n hx hb dL_law_212 rfl (lv_at hl 1 rfl) ?_
      refine lv_iload hx hb dL_law_213 (lv_at hl 5 rfl) ?_
      refine yc_call (va_runV (As := [.int (zI pl)]) (rest := []) CF (y_ways l D cI cW cP ad np pp pn pg b L xs hE c_L106 G_L106 pl (by omega) H.size) (cwV 1 hts gL_law_X5_ways rfl rfl rfl (by decide +kernel) ⟨Nat.le_of_ble_eq_true rfl, Nat.le_of_ble_eq_true rfl⟩) (yc_preV hK hX hbl hbA hS hY) rfl rfl hl.1 rfl (lv_room (Nat.le_of_ble_eq_true rfl)) dL_law_215 ⟨Nat.le_of_ble_eq_true rfl, Nat.le_of_ble_eq_true rfl⟩) hAe hS (fun v_215 c_215 G_215 H locs hp_215 hY hS => ?_)
      obtain ⟨rfl, rfl, rfl⟩ := hp_215
      refine lv_iload hx hb dL_law_218 (lv_at hl 8 rfl) ?_
      have hws := wset_rng (pn pl)
      refine z_ishr hx hb dL_law_220 (by omega) (by omega) ?_
      have hwd := z_div (a := wset (pn pl)) (b := 2 ^ w.toNat) (A := 31) (by omega) (Int.pow_pos (by decide)) hws.2
      refine z_iconst hx hb dL_law_221 ?_
      refine z_iand1 hx hb dL_law_222 (by omega) ?_
      have k2 : ∀ (w2 : Int) (ls : Array Slot), 0 ≤ w2 ∧ w2 ≤ 4 → wset (pn pl) / 2 ^ w2.toNat % 2 = 1 → lv_has ls 9 [(0, .ref b), (1, .ref (ad (4, 0))), (2, .int (zI 1)), (3, .int (zI t)), (4, .int (zI v_121)), (5, .int (zI pl)), (6, .int (zI n)), (7, .int (zI p)), (8, .int (zI w2))] → W p_ l e_ room_1 s m_ #[Value.ref b] below meth cd H locs 40 2000 (lw_Z below #[Value.ref b] s) (F0 m_ 235 ls []) := by
        intro w2 ls hw2 hww2 hl
        refine lv_aload_n hx hb dL_law_235 rfl (lv_at hl 1 rfl) ?_
        refine lv_aload_n hx hb dL_law_236 rfl (lv_at hl 0 rfl) ?_
        refine lv_iload_n hx hb dL_law_237 rfl (lv_at hl 3 rfl) ?_
        refine lv_iload hx hb dL_law_238 (lv_at hl 4 rfl) ?_
        refine yc_call (va_runS (As := [.ref (ad (4, 0)), .ref b, .int (zI t), .int (zI v_121)]) (rest := []) CF (q_isProductRight l D cI cW cP ad np pp pn pg b L xs hE c_L106 G_L106 t v_121 (by omega) (by omega) H.size) (va_cwS 4 hts gL_law_L_isProductRight rfl rfl rfl (by decide +kernel) ⟨Nat.le_of_ble_eq_true rfl, Nat.le_of_ble_eq_true rfl⟩) (yc_preS hK hX hbl hbA hS hY) rfl rfl hl.1 rfl (lv_room (Nat.le_of_ble_eq_true rfl)) dL_law_240 ⟨Nat.le_of_ble_eq_true rfl, Nat.le_of_ble_eq_true rfl⟩) hAe hS (fun v_240 c_240 G_240 H locs hp_240 hY hS => ?_)
        subst hp_240
        refine z_if_eq (tgt := 289) hx hb dL_law_243 (by decide) (by omega) (fun c_243 => absurd c_243 (by omega)) (fun c_243 => ?_)
        refine lv_aload_n hx hb dL_law_246 rfl (lv_at hl 1 rfl) ?_
        refine lv_aload_n hx hb dL_law_247 rfl (lv_at hl 0 rfl) ?_
        refine lv_iload_n hx hb dL_law_248 rfl (lv_at hl 3 rfl) ?_
        refine lv_iload hx hb dL_law_249 (lv_at hl 4 rfl) ?_
        refine yc_call (va_runS (As := [.ref (ad (4, 0)), .ref b, .int (zI t), .int (zI v_121)]) (rest := []) CF (q_isFilterRight l D cI cW cP ad np pp pn pg b L xs hE c_240 G_240 t v_121 (by omega) (by omega) H.size) (va_cwS 4 hts gL_law_L_isFilterRight rfl rfl rfl (by decide +kernel) ⟨Nat.le_of_ble_eq_true rfl, Nat.le_of_ble_eq_true rfl⟩) (yc_preS hK hX hbl hbA hS hY) rfl rfl hl.1 rfl (lv_room (Nat.le_of_ble_eq_true rfl)) dL_law_251 ⟨Nat.le_of_ble_eq_true rfl, Nat.le_of_ble_eq_true rfl⟩) hAe hS (fun v_251 c_251 G_251 H locs hp_251 hY hS => ?_)
        obtain ⟨rfl, hx0_251, hx1_251, hx2_251, hx3_251⟩ := hp_251
        refine z_if_eq (tgt := 289) hx hb dL_law_254 (by decide) (by omega) (fun c_254 => absurd c_254 (by omega)) (fun c_254 => ?_)
        refine lv_aload_n hx hb dL_law_257 rfl (lv_at hl 1 rfl) ?_
        refine lv_iload hx hb dL_law_258 (lv_at hl 5 rfl) ?_
        refine lv_iload hx hb dL_law_260 (lv_at hl 6 rfl) ?_
        refine lv_iload hx hb dL_law_262 (lv_at hl 7 rfl) ?_
        refine yc_call (va_runS (As := [.ref (ad (4, 0)), .int (zI pl), .int (zI n), .int (zI p)]) (rest := []) CF (q_isRoundRight l D cI cW cP ad np pp pn pg b L xs hE c_251 G_251 pl n p (by omega) (by exact hn_) (by exact hp_) (by exact hx0_251) (by exact hx1_251) (by exact hx2_251) (by exact hx3_251) H.size) (va_cwS 4 hts gL_law_L_isRoundRight rfl rfl rfl (by decide +kernel) ⟨Nat.le_of_ble_eq_true rfl, Nat.le_of_ble_eq_true rfl⟩) (yc_preS hK hX hbl hbA hS hY) rfl rfl hl.1 rfl (lv_room (Nat.le_of_ble_eq_true rfl)) dL_law_264 ⟨Nat.le_of_ble_eq_true rfl, Nat.le_of_ble_eq_true rfl⟩) hAe hS (fun v_264 c_264 G_264 H locs hp_264 hY hS => ?_)
        obtain ⟨rfl, hx0_264, hx1_264⟩ := hp_264
        refine z_if_eq (tgt := 289) hx hb dL_law_267 (by decide) (by omega) (fun c_267 => absurd c_267 (by omega)) (fun c_267 => ?_)
        refine lv_aload_n hx hb dL_law_270 rfl (lv_at hl 1 rfl) ?_
        refine lv_iload hx hb dL_law_271 (lv_at hl 5 rfl) ?_
        refine lv_iload hx hb dL_law_273 (lv_at hl 6 rfl) ?_
        refine lv_iload hx hb dL_law_275 (lv_at hl 7 rfl) ?_
        refine lv_iload hx hb dL_law_277 (lv_at hl 8 rfl) ?_
        refine yc_call (va_runS (As := [.ref (ad (4, 0)), .int (zI pl), .int (zI n), .int (zI p), .int (zI w2)]) (rest := []) CF (q_isTurned l D cI cW cP ad np pp pn pg b L xs hE c_264 G_264 pl n p w2 (by omega) (by exact hn_) (by exact hp_) (by exact hw2) (by exact hww2) (by omega) H.size) (va_cwS 5 hts gL_law_L_isTurned rfl rfl rfl (by decide +kernel) ⟨Nat.le_of_ble_eq_true rfl, Nat.le_of_ble_eq_true rfl⟩) (yc_preS hK hX hbl hbA hS hY) rfl rfl hl.1 rfl (lv_room (Nat.le_of_ble_eq_true rfl)) dL_law_279 ⟨Nat.le_of_ble_eq_true rfl, Nat.le_of_ble_eq_true rfl⟩) hAe hS (fun v_279 c_279 G_279 H locs hp_279 hY hS => ?_)
        subst hp_279
        refine z_if_eq (tgt := 289) hx hb dL_law_282 (by decide) (by omega) (fun c_282 => absurd c_282 (by omega)) (fun c_282 => ?_)
        refine z_iconst hx hb dL_law_285 ?_
        refine lv_goto (tgt := 290) hx hb dL_law_286 (by decide) ?_
        refine lv_istore_n (lv' := [(2, .int (zI 1)), (0, .ref b), (1, .ref (ad (4, 0))), (3, .int (zI t)), (4, .int (zI v_121)), (5, .int (zI pl)), (6, .int (zI n)), (7, .int (zI p)), (8, .int (zI w2))]) hx hb dL_law_290 rfl hl (by decide) rfl (fun ls hl => ?_)
        have hl := lv_sub hl [1, 2, 0, 3, 4, 5, 6, 7, 8] rfl
        have hl : lv_has ls 9 [(0, .ref b), (1, .ref (ad (4, 0))), (2, .int (zI 1)), (3, .int (zI t)), (4, .int (zI v_121)), (5, .int (zI pl)), (6, .int (zI n)), (7, .int (zI p)), (8, .int (zI w2))] := hl
        refine lv_iinc (v := zI (t + 1)) (lv' := [(3, .int (zI (t + 1))), (0, .ref b), (1, .ref (ad (4, 0))), (2, .int (zI 1)), (4, .int (zI v_121)), (5, .int (zI pl)), (6, .int (zI n)), (7, .int (zI p)), (8, .int (zI w2))]) hx hb dL_law_291 hl (k := 3) rfl (zI_add _ _) (by decide) rfl (fun ls hl => ?_)
        have hl := lv_sub hl [1, 2, 3, 0, 4, 5, 6, 7, 8] rfl
        have hl : lv_has ls 9 [(0, .ref b), (1, .ref (ad (4, 0))), (2, .int (zI 1)), (3, .int (zI (t + 1))), (4, .int (zI v_121)), (5, .int (zI pl)), (6, .int (zI n)), (7, .int (zI p)), (8, .int (zI w2))] := hl
        refine lv_goto (tgt := 106) hx hb dL_law_294 (by decide) ?_
        exact ih_106 (t + 1, c_279, G_279) _ _ _ ⟨(by omega), hY, hS, lv_sub hl [0, 1, 2, 3] rfl⟩ (by show (12 - (t + 1)).toNat < (12 - t).toNat; omega)
      refine z_nameI (fun bt e_bt => ?_)
      refine z_iconst hx hb dL_law_223 ?_
      refine z_icmp_ne (tgt := 232) hx hb dL_law_224 (by decide) (by omega) (fun c_224 => ?_) (fun c_224 => ?_)
      · refine z_iconst hx hb dL_law_232 ?_
        refine lv_istore (lv' := [(8, .int (zI 1)), (0, .ref b), (1, .ref (ad (4, 0))), (2, .int (zI 1)), (3, .int (zI t)), (4, .int (zI v_121)), (5, .int (zI pl)), (6, .int (zI n)), (7, .int (zI p))]) hx hb dL_law_233 hl (by decide) rfl (fun ls hl => ?_)
        have hl := lv_sub hl [1, 2, 3, 4, 5, 6, 7, 8, 0] rfl
        have hl : lv_has ls 9 [(0, .ref b), (1, .ref (ad (4, 0))), (2, .int (zI 1)), (3, .int (zI t)), (4, .int (zI v_121)), (5, .int (zI pl)), (6, .int (zI n)), (7, .int (zI p)), (8, .int (zI 1))] := hl
        exact k2 1 _ (by omega) ((wset_014 _).2.1) hl
      · refine lv_iload hx hb dL_law_227 (lv_at hl 8 rfl) ?_
        refine lv_goto (tgt := 233) hx hb dL_law_229 (by decide) ?_
        refine lv_istore (lv' := [(8, .int (zI w)), (0, .ref b), (1, .ref (ad (4, 0))), (2, .int (zI 1)), (3, .int (zI t)), (4, .int (zI v_121)), (5, .int (zI pl)), (6, .int (zI n)), (7, .int (zI p))]) hx hb dL_law_233 hl (by decide) rfl (fun ls hl => ?_)
        have hl := lv_sub hl [1, 2, 3, 4, 5, 6, 7, 8, 0] rfl
        have hl : lv_has ls 9 [(0, .ref b), (1, .ref (ad (4, 0))), (2, .int (zI 1)), (3, .int (zI t)), (4, .int (zI v_121)), (5, .int (zI pl)), (6, .int (zI n)), (7, .int (zI p)), (8, .int (zI w))] := hl
        exact k2 w _ (by omega) (by rw [← e_bt]; exact c_224) hl
    rcases (show pl = 0 ∨ pl = 1 ∨ pl = 2 ∨ pl = 3 by omega) with hpl | hpl | hpl | hpl
    · subst hpl
      refine lv_iload hx hb dL_law_131 (lv_at hl 5 rfl) ?_
      refine z_if_ne (tgt := 141) hx hb dL_law_133 (by decide) (by omega) (fun c_133 => absurd c_133 (by omega)) (fun c_133 => ?_)
      refine z_bipush hx hb dL_law_136 (by decide) ?_
      refine lv_goto (tgt := 165) hx hb dL_law_138 (by decide) ?_
      refine lv_istore (lv' := [(6, .int (zI 60)), (0, .ref b), (1, .ref (ad (4, 0))), (2, .int (zI 1)), (3, .int (zI t)), (4, .int (zI v_121)), (5, .int (zI 0))]) hx hb dL_law_165 hl (by decide) rfl (fun ls hl => ?_)
      have hl := lv_sub hl [1, 2, 3, 4, 5, 6, 0] rfl
      have hl : lv_has ls 9 [(0, .ref b), (1, .ref (ad (4, 0))), (2, .int (zI 1)), (3, .int (zI t)), (4, .int (zI v_121)), (5, .int (zI 0)), (6, .int (zI 60))] := hl
      refine lv_iload hx hb dL_law_167 (lv_at hl 5 rfl) ?_
      refine z_if_ne (tgt := 177) hx hb dL_law_169 (by decide) (by omega) (fun c_169 => absurd c_169 (by omega)) (fun c_169 => ?_)
      refine z_bipush hx hb dL_law_172 (by decide) ?_
      refine lv_goto (tgt := 204) hx hb dL_law_174 (by decide) ?_
      refine lv_istore (lv' := [(7, .int (zI 61)), (0, .ref b), (1, .ref (ad (4, 0))), (2, .int (zI 1)), (3, .int (zI t)), (4, .int (zI v_121)), (5, .int (zI 0)), (6, .int (zI 60))]) hx hb dL_law_204 hl (by decide) rfl (fun ls hl => ?_)
      have hl := lv_sub hl [1, 2, 3, 4, 5, 6, 7, 0] rfl
      have hl : lv_has ls 9 [(0, .ref b), (1, .ref (ad (4, 0))), (2, .int (zI 1)), (3, .int (zI t)), (4, .int (zI v_121)), (5, .int (zI 0)), (6, .int (zI 60)), (7, .int (zI 61))] := hl
      exact kk 60 61 _ (by first | exact hpn.1 | exact hpn.2.1 | exact hpn.2.2.1 | exact hpn.2.2.2) (by first | exact hpp.1 | exact hpp.2.1 | exact hpp.2.2.1 | exact hpp.2.2.2) (by decide) hl
    · subst hpl
      refine lv_iload hx hb dL_law_131 (lv_at hl 5 rfl) ?_
      refine z_if_ne (tgt := 141) hx hb dL_law_133 (by decide) (by omega) (fun c_133 => ?_) (fun c_133 => absurd c_133 (by omega))
      refine lv_iload hx hb dL_law_141 (lv_at hl 5 rfl) ?_
      refine z_iconst hx hb dL_law_143 ?_
      refine z_icmp_ne (tgt := 152) hx hb dL_law_144 (by decide) (by omega) (fun c_144 => absurd c_144 (by omega)) (fun c_144 => ?_)
      refine z_bipush hx hb dL_law_147 (by decide) ?_
      refine lv_goto (tgt := 165) hx hb dL_law_149 (by decide) ?_
      refine lv_istore (lv' := [(6, .int (zI 64)), (0, .ref b), (1, .ref (ad (4, 0))), (2, .int (zI 1)), (3, .int (zI t)), (4, .int (zI v_121)), (5, .int (zI 1))]) hx hb dL_law_165 hl (by decide) rfl (fun ls hl => ?_)
      have hl := lv_sub hl [1, 2, 3, 4, 5, 6, 0] rfl
      have hl : lv_has ls 9 [(0, .ref b), (1, .ref (ad (4, 0))), (2, .int (zI 1)), (3, .int (zI t)), (4, .int (zI v_121)), (5, .int (zI 1)), (6, .int (zI 64))] := hl
      refine lv_iload hx hb dL_law_167 (lv_at hl 5 rfl) ?_
      refine z_if_ne (tgt := 177) hx hb dL_law_169 (by decide) (by omega) (fun c_169 => ?_) (fun c_169 => absurd c_169 (by omega))
      refine lv_iload hx hb dL_law_177 (lv_at hl 5 rfl) ?_
      refine z_iconst hx hb dL_law_179 ?_
      refine z_icmp_ne (tgt := 189) hx hb dL_law_180 (by decide) (by omega) (fun c_180 => absurd c_180 (by omega)) (fun c_180 => ?_)
      refine z_sipush hx hb dL_law_183 (by decide) ?_
      refine lv_goto (tgt := 204) hx hb dL_law_186 (by decide) ?_
      refine lv_istore (lv' := [(7, .int (zI 7681)), (0, .ref b), (1, .ref (ad (4, 0))), (2, .int (zI 1)), (3, .int (zI t)), (4, .int (zI v_121)), (5, .int (zI 1)), (6, .int (zI 64))]) hx hb dL_law_204 hl (by decide) rfl (fun ls hl => ?_)
      have hl := lv_sub hl [1, 2, 3, 4, 5, 6, 7, 0] rfl
      have hl : lv_has ls 9 [(0, .ref b), (1, .ref (ad (4, 0))), (2, .int (zI 1)), (3, .int (zI t)), (4, .int (zI v_121)), (5, .int (zI 1)), (6, .int (zI 64)), (7, .int (zI 7681))] := hl
      exact kk 64 7681 _ (by first | exact hpn.1 | exact hpn.2.1 | exact hpn.2.2.1 | exact hpn.2.2.2) (by first | exact hpp.1 | exact hpp.2.1 | exact hpp.2.2.1 | exact hpp.2.2.2) (by decide) hl
    · subst hpl
      refine lv_iload hx hb dL_law_131 (lv_at hl 5 rfl) ?_
      refine z_if_ne (tgt := 141) hx hb dL_law_133 (by decide) (by omega) (fun c_133 => ?_) (fun c_133 => absurd c_133 (by omega))
      refine lv_iload hx hb dL_law_141 (lv_at hl 5 rfl) ?_
      refine z_iconst hx hb dL_law_143 ?_
      refine z_icmp_ne (tgt := 152) hx hb dL_law_144 (by decide) (by omega) (fun c_144 => ?_) (fun c_144 => absurd c_144 (by omega))
      refine lv_iload hx hb dL_law_152 (lv_at hl 5 rfl) ?_
      refine z_iconst hx hb dL_law_154 ?_
      refine z_icmp_ne (tgt := 163) hx hb dL_law_155 (by decide) (by omega) (fun c_155 => absurd c_155 (by omega)) (fun c_155 => ?_)
      refine z_bipush hx hb dL_law_158 (by decide) ?_
      refine lv_goto (tgt := 165) hx hb dL_law_160 (by decide) ?_
      refine lv_istore (lv' := [(6, .int (zI 61)), (0, .ref b), (1, .ref (ad (4, 0))), (2, .int (zI 1)), (3, .int (zI t)), (4, .int (zI v_121)), (5, .int (zI 2))]) hx hb dL_law_165 hl (by decide) rfl (fun ls hl => ?_)
      have hl := lv_sub hl [1, 2, 3, 4, 5, 6, 0] rfl
      have hl : lv_has ls 9 [(0, .ref b), (1, .ref (ad (4, 0))), (2, .int (zI 1)), (3, .int (zI t)), (4, .int (zI v_121)), (5, .int (zI 2)), (6, .int (zI 61))] := hl
      refine lv_iload hx hb dL_law_167 (lv_at hl 5 rfl) ?_
      refine z_if_ne (tgt := 177) hx hb dL_law_169 (by decide) (by omega) (fun c_169 => ?_) (fun c_169 => absurd c_169 (by omega))
      refine lv_iload hx hb dL_law_177 (lv_at hl 5 rfl) ?_
      refine z_iconst hx hb dL_law_179 ?_
      refine z_icmp_ne (tgt := 189) hx hb dL_law_180 (by decide) (by omega) (fun c_180 => ?_) (fun c_180 => absurd c_180 (by omega))
      refine lv_iload hx hb dL_law_189 (lv_at hl 5 rfl) ?_
      refine z_iconst hx hb dL_law_191 ?_
      refine z_icmp_ne (tgt := 201) hx hb dL_law_192 (by decide) (by omega) (fun c_192 => absurd c_192 (by omega)) (fun c_192 => ?_)
      refine z_sipush hx hb dL_law_195 (by decide) ?_
      refine lv_goto (tgt := 204) hx hb dL_law_198 (by decide) ?_
      refine lv_istore (lv' := [(7, .int (zI 367)), (0, .ref b), (1, .ref (ad (4, 0))), (2, .int (zI 1)), (3, .int (zI t)), (4, .int (zI v_121)), (5, .int (zI 2)), (6, .int (zI 61))]) hx hb dL_law_204 hl (by decide) rfl (fun ls hl => ?_)
      have hl := lv_sub hl [1, 2, 3, 4, 5, 6, 7, 0] rfl
      have hl : lv_has ls 9 [(0, .ref b), (1, .ref (ad (4, 0))), (2, .int (zI 1)), (3, .int (zI t)), (4, .int (zI v_121)), (5, .int (zI 2)), (6, .int (zI 61)), (7, .int (zI 367))] := hl
      exact kk 61 367 _ (by first | exact hpn.1 | exact hpn.2.1 | exact hpn.2.2.1 | exact hpn.2.2.2) (by first | exact hpp.1 | exact hpp.2.1 | exact hpp.2.2.1 | exact hpp.2.2.2) (by decide) hl
    · subst hpl
      refine lv_iload hx hb dL_law_131 (lv_at hl 5 rfl) ?_
      refine z_if_ne (tgt := 141) hx hb dL_law_133 (by decide) (by omega) (fun c_133 => ?_) (fun c_133 => absurd c_133 (by omega))
      refine lv_iload hx hb dL_law_141 (lv_at hl 5 rfl) ?_
      refine z_iconst hx hb dL_law_143 ?_
      refine z_icmp_ne (tgt := 152) hx hb dL_law_144 (by decide) (by omega) (fun c_144 => ?_) (fun c_144 => absurd c_144 (by omega))
      refine lv_iload hx hb dL_law_152 (lv_at hl 5 rfl) ?_
      refine z_iconst hx hb dL_law_154 ?_
      refine z_icmp_ne (tgt := 163) hx hb dL_law_155 (by decide) (by omega) (fun c_155 => ?_) (fun c_155 => absurd c_155 (by omega))
      refine z_bipush hx hb dL_law_163 (by decide) ?_
      refine lv_istore (lv' := [(6, .int (zI 36)), (0, .ref b), (1, .ref (ad (4, 0))), (2, .int (zI 1)), (3, .int (zI t)), (4, .int (zI v_121)), (5, .int (zI 3))]) hx hb dL_law_165 hl (by decide) rfl (fun ls hl => ?_)
      have hl := lv_sub hl [1, 2, 3, 4, 5, 6, 0] rfl
      have hl : lv_has ls 9 [(0, .ref b), (1, .ref (ad (4, 0))), (2, .int (zI 1)), (3, .int (zI t)), (4, .int (zI v_121)), (5, .int (zI 3)), (6, .int (zI 36))] := hl
      refine lv_iload hx hb dL_law_167 (lv_at hl 5 rfl) ?_
      refine z_if_ne (tgt := 177) hx hb dL_law_169 (by decide) (by omega) (fun c_169 => ?_) (fun c_169 => absurd c_169 (by omega))
      refine lv_iload hx hb dL_law_177 (lv_at hl 5 rfl) ?_
      refine z_iconst hx hb dL_law_179 ?_
      refine z_icmp_ne (tgt := 189) hx hb dL_law_180 (by decide) (by omega) (fun c_180 => ?_) (fun c_180 => absurd c_180 (by omega))
      refine lv_iload hx hb dL_law_189 (lv_at hl 5 rfl) ?_
      refine z_iconst hx hb dL_law_191 ?_
      refine z_icmp_ne (tgt := 201) hx hb dL_law_192 (by decide) (by omega) (fun c_192 => ?_) (fun c_192 => absurd c_192 (by omega))
      refine z_sipush hx hb dL_law_201 (by decide) ?_
      refine lv_istore (lv' := [(7, .int (zI 9973)), (0, .ref b), (1, .ref (ad (4, 0))), (2, .int (zI 1)), (3, .int (zI t)), (4, .int (zI v_121)), (5, .int (zI 3)), (6, .int (zI 36))]) hx hb dL_law_204 hl (by decide) rfl (fun ls hl => ?_)
      have hl := lv_sub hl [1, 2, 3, 4, 5, 6, 7, 0] rfl
      have hl : lv_has ls 9 [(0, .ref b), (1, .ref (ad (4, 0))), (2, .int (zI 1)), (3, .int (zI t)), (4, .int (zI v_121)), (5, .int (zI 3)), (6, .int (zI 36)), (7, .int (zI 9973))] := hl
      exact kk 36 9973 _ (by first | exact hpn.1 | exact hpn.2.1 | exact hpn.2.2.1 | exact hpn.2.2.2) (by first | exact hpp.1 | exact hpp.2.1 | exact hpp.2.2.1 | exact hpp.2.2.2) (by decide) hl
end LT
