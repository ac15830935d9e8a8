def R_law : String := "ButterflyYardLaw"
def lw_P (b : Addr) (xs : List Int32) (args : Array Value) (s : State) : Prop := args = #[.ref b] ∧ s.IntsAt b xs ∧ xs.length ≤ 3072 ∧ (Jvm.Cond.and given_1 narrow_1).before args s = true
def lw_Q (_ : Array Value) (s : State) (o : Outcome) (t : State) : Prop := o = .returned (some (.int 1)) ∧ Framed s o t [] 601024 7293034
def lw_Z (below : List Frame) (a : Array Value) (s : State) : State → Prop := fun t => ∃ o, t.status = .running ∧ Ended t below o ∧ lw_Q a s o t
/-- the law's own end, with 1 on the stack, nothing written that was there before, its room as the claim has it -/
theorem lw_ret {p : Program} {l : Launch} {e : Env} {s : State} {m : MethodId} {below : List Frame} {meth : Method} {c : Code} {b : Nat} (hx : p.tables.exec = Jvm.exec) (hb : c.code = code) (hr : meth.sig.returnType = ret) (hlocks : meth.locks = false) {pc : Nat} {H : Heap} {ls : Array Slot} (hdg : decode code pc = .ok (.ireturn, 1)) : W p l e room_1 s m #[Value.ref b] below meth c H [] 601024 7293034 (lw_Z below #[Value.ref b] s) (F0 m pc ls [.int 1]) := by
  intro T hT X
  obtain ⟨fs, hret, hrun, hended, hW, hframe⟩ := X.leave (v := some (.int 1)) (hlocks := hlocks) (fun h => by rw [hr] at h; cases h)
  have hmeth' : T.vm.method? m = some meth := X.method'
  refine ⟨T.setFrames fs, ?_, .returned (some (.int 1)), hrun, hended, rfl, ⟨_, rfl⟩, hW, hframe⟩
  jvm_step X.here [X.here.top, hx, hb, hdg, hmeth', hr, ret, narrow_b1]
  (try refine ⟨rfl, ?_⟩); (try refine ⟨rfl, ?_⟩)
  first | (intro acts; rw [hret _ acts rfl rfl rfl]) | rw [hret _ _ rfl rfl rfl]
  exact Steps.refl _
/-- what holds at the law's entry: the machine, the code, the tables' words (any of lw_tbl by 'hts w (by decide +kernel)'), the script of L ints xs at the cell b, what the Statement gives of the start (any of its parts by flat_of_before) -/
def lw_At (p : Program) (s : State) (m : MethodId) (meth : Method) (c : Code) (b L : Nat) (xs : Nat → Int32) : Prop :=
  p.tables.exec = Jvm.exec ∧ c.code = code ∧ meth.sig.returnType = ret ∧ c.maxLocals = 7 ∧ s.vm.findClass R_law = some m.cls ∧ (∀ w ∈ lw_tbl, w.before #[Value.ref b] s = true) ∧ va_X b L xs s s.heap ∧ b < s.heap.size ∧ meth.locks = false ∧ (Jvm.Cond.and given_1 narrow_1).before #[Value.ref b] s = true
section LL
def zKS : List zk := [(0, 0), (1, 0), (0, 1), (1, 1), (0, 2), (1, 2), (0, 3), (1, 3), (4, 0), (5, 0), (6, 0), (7, 0), (8, 0), (9, 0), (10, 0), (11, 0), (12, 0), (13, 0), (14, 0), (15, 0), (16, 0), (17, 0), (18, 0)]
def zAD0 (a0 a1 a2 a3 a4 a5 a6 a7 a8 a9 a10 a11 a12 a13 a14 a15 a16 a17 a18 a19 a20 a21 a22 : Nat) : zk → Nat := fun k => match k.1 with
  | 0 => if k.2 = 0 then a0 else if k.2 = 1 then a2 else if k.2 = 2 then a4 else a6
  | 1 => if k.2 = 0 then a1 else if k.2 = 1 then a3 else if k.2 = 2 then a5 else a7
  | 4 => a8
  | 5 => a9
  | 6 => a10
  | 7 => a11
  | 8 => a12
  | 9 => a13
  | 10 => a14
  | 11 => a15
  | 12 => a16
  | 13 => a17
  | 14 => a18
  | 15 => a19
  | 16 => a20
  | 17 => a21
  | _ => a22
def zMD0 (b0 b1 b2 b3 b4 b5 b6 : Nat) : Nat → Nat := fun n => match n with
  | 0 => b0
  | 1 => b1
  | 2 => b2
  | 3 => b3
  | 4 => b4
  | 5 => b5
  | _ => b6

theorem zKS_all : ∀ k, zYK 0 k → k ∈ zKS := by
  intro k hk
  obtain ⟨a, b⟩ := k
  unfold zKS
  rcases hk with ⟨h1, h2, h3⟩ | ⟨h1, h2, h3, h4⟩ | ⟨h1, h2, h3⟩
  · dsimp only at h1 h2 h3
    rcases (show a = 0 ∨ a = 1 by omega) with rfl | rfl <;> rcases (show b = 0 ∨ b = 1 ∨ b = 2 ∨ b = 3 by omega) with rfl | rfl | rfl | rfl <;> simp
  · dsimp only at h3 h4
    omega
  · dsimp only at h1 h2 h3
    subst h3
    rcases (show a = 4 ∨ a = 5 ∨ a = 6 ∨ a = 7 ∨ a = 8 ∨ a = 9 ∨ a = 10 ∨ a = 11 ∨ a = 12 ∨ a = 13 ∨ a = 14 ∨ a = 15 ∨ a = 16 ∨ a = 17 ∨ a = 18 by omega) with rfl | rfl | rfl | rfl | rfl | rfl | rfl | rfl | rfl | rfl | rfl | rfl | rfl | rfl | rfl <;> simp
theorem zHs_of {D : va_G} {K : zk → Prop} {W : zk → Nat × va_E} {wY M : va_W} {A : Nat → Prop} {H : Heap} {ks : List zk} (hP : va_P D vwCl (wY ++ M) H) (hD : va_D A (wY ++ M)) (e : ks.map W = wY) (hks : ∀ k, K k → k ∈ ks) : zHs D K W M A H := by
  have at1 : ∀ k, K k → ∃ j : Nat, ks[j]? = some k ∧ (wY ++ M)[j]? = some (W k) ∧ j < wY.length := fun k hk => by
    obtain ⟨j, hj⟩ := List.getElem?_of_mem (hks k hk)
    have h1 : wY[j]? = some (W k) := by rw [← e, List.getElem?_map, hj]; rfl
    have h2 := (List.getElem?_eq_some_iff.mp h1).1
    exact ⟨j, hj, by rw [List.getElem?_append_left h2]; exact h1, h2⟩
  have at2 : ∀ (i : Nat) (q : Nat × va_E), M[i]? = some q → (wY ++ M)[wY.length + i]? = some q := fun i q hq => by
    rw [List.getElem?_append_right (by omega), show wY.length + i - wY.length = i by omega]
    exact hq
  refine ⟨fun k hk => ?_, fun i j hi hj hij => ?_, fun k hk => ?_, fun i q hq => hP _ q (at2 i q hq), ⟨fun i j x y hx hy hxy => ?_, fun i q hq => hD.2 _ q (at2 i q hq)⟩, fun k i q hk hq hkq => ?_⟩
  · obtain ⟨j, -, h2, -⟩ := at1 k hk
    exact hP j _ h2
  · obtain ⟨a, h1, h2, -⟩ := at1 i hi
    obtain ⟨b, h3, h4, -⟩ := at1 j hj
    have h5 := hD.1 a b _ _ h2 h4 hij
    subst h5
    exact Option.some.inj (h1.symm.trans h3)
  · obtain ⟨j, -, h2, -⟩ := at1 k hk
    exact hD.2 j _ h2
  · have := hD.1 _ _ _ _ (at2 i x hx) (at2 j y hy) hxy
    omega
  · obtain ⟨j, -, h2, h3⟩ := at1 k hk
    have := hD.1 _ _ _ _ h2 (at2 i q hq) hkq
    omega
theorem zK_arr {s : State} {args : Array Value} {ty : FieldType} (h : (Cond.arrayClass ty).before args s = true) : ∃ cA, ArrOfT s cA ty ∧ s.vm.findClass ("[" ++ ty.toString) = some cA := by
  obtain ⟨c, k, comp, h1, h2, h3⟩ := Cond.arrayClass_spec h
  exact ⟨c, fun n z => ⟨fun k' h' => (by cases h'), k, h2, comp, h3⟩, h1⟩
theorem zK_obj {s : State} {C : String} (h : va_AO C s) : ∃ cA, ArrOfT s cA (.object C) ∧ va_RA s cA (.object C) := by
  obtain ⟨comp, c, k, f1, f2, f3, f4, f5⟩ := Cond.arrayOver_spec h
  exact ⟨c, fun N z => ⟨fun k' h' => (by cases h'), k, f3, comp, f4⟩, k, comp, f3, f4, f1, f5⟩
theorem zStr_in : ∀ kt ∈ zStr, Cond.stringRef RX5 kt.1 kt.2 ∈ lw_tbl := by decide +kernel
theorem zDcl_in : ∀ x ∈ zDcl, Cond.declares x ∈ lw_tbl := by decide +kernel
set_option maxHeartbeats 4000000 in
set_option maxRecDepth 100000 in
theorem law_loop {p : Program} {l : Launch} {e : Env} {s : State} {m : MethodId} {below : List Frame} {meth : Method} {c : Code} {b L : Nat} {xs : Nat → Int32} {D : va_G} {cI cW cP cJ : ClassId} (hC : zLX p l s m meth c b L xs D cI cW cP cJ) (hr : meth.sig.returnType = ret) (hlocks : meth.locks = false) :
    ∀ (n j : Nat) (H : Heap) (locs : List Loc) (ls : Array Slot), L - 6 * j < n → zLI s b D cI cW cP cJ (6 * (j : Int)) H locs ls → 6 * j ≤ L → W p l e room_1 s m #[Value.ref b] below meth c H locs (30 + 2 * j) (1500 + 70 * j) (lw_Z below #[Value.ref b] s) (F0 m 23 ls []) := by
  intro n
  induction n with
  | zero => intro j H locs ls h; omega
  | succ n ih =>
    intro j H locs ls hn hI hjL
    obtain ⟨hx, hb, hml, hown, hts, hX, hbl, hL, hl9, hXT, hK⟩ := id hC
    obtain ⟨ad, ar, md, xe, xl, xp, xz, xr, xm, np, th, pg, o, hY, hM, hag, hH, hS, hl⟩ := id hI
    have hbA : ¬ (fun q : Nat => s.heap.size ≤ q) b := Nat.not_le.mpr hbl
    refine lv_iload hx hb dL_law_23 (lv_at hl 4 rfl) ?_
    refine lv_aload_n hx hb dL_law_25 rfl (lv_at hl 0 rfl) ?_
    refine z_slen hx hb hX hbl hbA hS dL_law_26 ?_
    refine z_bipush hx hb dL_law_27 (by decide) ?_
    refine z_isub hx hb dL_law_29 ?_
    refine z_icmp_gt (tgt := 1259) hx hb dL_law_30 (by decide) (by omega) (fun c_30 => ?_) (fun c_30 => ?_)
    · refine lv_iconst (v := 1) hx hb dL_law_1259 (by decide) ?_
      refine va_forget hS.2.2 ?_
      refine W.widen (k := 601024) (n := 7293034) (by omega) (by omega) ?_
      exact lw_ret hx hb hr hlocks dL_law_1260
    · have hj : 6 * j + 6 ≤ L := by omega
      have kk : ∀ (H : Heap) (locs : List Loc) (ls : Array Slot), zLI s b D cI cW cP cJ (6 * (j : Int)) H locs ls → W p l e room_1 s m #[Value.ref b] below meth c H locs (30 + 2 * j + 2) (1500 + 70 * j + 70) (lw_Z below #[Value.ref b] s) (F0 m 1253 ls []) := by
        intro H locs ls hI
        obtain ⟨ad, ar, md, xe, xl, xp, xz, xr, xm, np, th, pg, o, hY, hM, hag, hH, hS, hl⟩ := hI
        refine lv_iinc (v := zI (6 * (j : Int) + 6)) (lv' := [(4, .int (zI (6 * (j : Int) + 6))), (0, .ref b), (1, .ref (ad (4, 0))), (2, .ref (md 0)), (3, .ref (ad (18, 0)))]) hx hb dL_law_1253 hl (k := 4) rfl (zI_add _ _) (by decide) rfl (fun ls hl => ?_)
        refine lv_goto (tgt := 23) hx hb dL_law_1256 (by decide) ?_
        refine W.widen (k := 30 + 2 * (j + 1)) (n := 1500 + 70 * (j + 1)) (by omega) (by omega) ?_
        rw [show 6 * (j : Int) + 6 = 6 * ((j + 1 : Nat) : Int) by omega] at hl
        exact ih (j + 1) H locs ls (by omega) ⟨ad, ar, md, xe, xl, xp, xz, xr, xm, np, th, pg, o, hY, hM, hag, hH, hS, lv_sub hl [1, 2, 3, 4, 0] rfl⟩ (by omega)
      refine lv_aload_n hx hb dL_law_33 rfl (lv_at hl 0 rfl) ?_
      refine lv_iload hx hb dL_law_34 (lv_at hl 4 rfl) ?_
      refine z_sld (b := b) hx hb hX hbl hbA hS (6 * j) (by omega) (by omega) hL dL_law_36 ?_
      refine z_bipush hx hb dL_law_37 (by decide) ?_
      refine z_and15 hx hb dL_law_39 ?_
      generalize (xs (6 * j)).toInt = x0
      rcases (show x0 % 16 = 0 ∨ x0 % 16 = 1 ∨ x0 % 16 = 2 ∨ x0 % 16 = 3 ∨ x0 % 16 = 4 ∨ x0 % 16 = 5 ∨ x0 % 16 = 6 ∨ x0 % 16 = 7 ∨ x0 % 16 = 8 ∨ x0 % 16 = 9 ∨ x0 % 16 = 10 ∨ x0 % 16 = 11 ∨ x0 % 16 = 12 ∨ x0 % 16 = 13 ∨ x0 % 16 = 14 ∨ x0 % 16 = 15 by omega) with sw | sw | sw | sw | sw | sw | sw | sw | sw | sw | sw | sw | sw | sw | sw | sw
      · refine z_tin (k := 0) (tgt := 120) hx hb dL_law_40 sw (by omega) (by omega) (by omega) rfl (by decide) ?_
        exact L_case_append hC j hj H locs ls hI kk
      · refine z_tin (k := 1) (tgt := 188) hx hb dL_law_40 sw (by omega) (by omega) (by omega) rfl (by decide) ?_
        exact L_case_clear hC j hj H locs ls hI kk
      · refine z_tin (k := 2) (tgt := 244) hx hb dL_law_40 sw (by omega) (by omega) (by omega) rfl (by decide) ?_
        exact L_case_copy hC j hj H locs ls hI kk
      · refine z_tin (k := 3) (tgt := 312) hx hb dL_law_40 sw (by omega) (by omega) (by omega) rfl (by decide) ?_
        exact L_case_length hC j hj H locs ls hI kk
      · refine z_tin (k := 4) (tgt := 368) hx hb dL_law_40 sw (by omega) (by omega) (by omega) rfl (by decide) ?_
        exact L_case_at hC j hj H locs ls hI kk
      · refine z_tin (k := 5) (tgt := 436) hx hb dL_law_40 sw (by omega) (by omega) (by omega) rfl (by decide) ?_
        exact L_case_plan hC j hj H locs ls hI kk
      · refine z_tin (k := 6) (tgt := 504) hx hb dL_law_40 sw (by omega) (by omega) (by omega) rfl (by decide) ?_
        exact L_case_plans hC j hj H locs ls hI kk
      · refine z_tin (k := 7) (tgt := 517) hx hb dL_law_40 sw (by omega) (by omega) (by omega) rfl (by decide) ?_
        exact L_case_root hC j hj H locs ls hI kk
      · refine z_tin (k := 8) (tgt := 573) hx hb dL_law_40 sw (by omega) (by omega) (by omega) rfl (by decide) ?_
        exact L_case_ways hC j hj H locs ls hI kk
      · refine z_tin (k := 9) (tgt := 629) hx hb dL_law_40 sw (by omega) (by omega) (by omega) rfl (by decide) ?_
        exact L_case_forward hC j hj H locs ls hI kk
      · refine z_tin (k := 10) (tgt := 709) hx hb dL_law_40 sw (by omega) (by omega) (by omega) rfl (by decide) ?_
        exact L_case_backward hC j hj H locs ls hI kk
      · refine z_tin (k := 11) (tgt := 789) hx hb dL_law_40 sw (by omega) (by omega) (by omega) rfl (by decide) ?_
        exact L_case_sum hC j hj H locs ls hI kk
      · refine z_tin (k := 12) (tgt := 869) hx hb dL_law_40 sw (by omega) (by omega) (by omega) rfl (by decide) ?_
        exact L_case_convolve hC j hj H locs ls hI kk
      · refine z_tin (k := 13) (tgt := 961) hx hb dL_law_40 sw (by omega) (by omega) (by omega) rfl (by decide) ?_
        exact L_case_convolved hC j hj H locs ls hI kk
      · refine z_tin (k := 14) (tgt := 1053) hx hb dL_law_40 sw (by omega) (by omega) (by omega) rfl (by decide) ?_
        by_cases hz : (xs (6 * j + 5)).toInt = 0
        · exact L_case_filter_t hC j hj H locs ls hI hz kk
        · exact L_case_filter_f hC j hj H locs ls hI hz kk
      · refine z_tin (k := 15) (tgt := 1173) hx hb dL_law_40 sw (by omega) (by omega) (by omega) rfl (by decide) ?_
        exact L_case_multiply hC j hj H locs ls hI kk

set_option maxHeartbeats 4000000 in
set_option maxRecDepth 100000 in
theorem whole_start {p : Program} {e : Env} {s : State} {m : MethodId} {below : List Frame} {meth : Method} {c : Code} (l : Launch) (hflags : l.flags = flags0) {b L : Nat} {xs : Nat → Int32} (hL : L ≤ 3072) (C0 : lw_At p s m meth c b L xs) : W p l e room_1 s m #[Value.ref b] below meth c s.heap [] 0 0 (lw_Z below #[Value.ref b] s) (entryFrame m ([Value.ref b] : List Value).toArray 7) := by
  obtain ⟨hx, hb, hr, hml, hown, htt, hX, hbl, hlocks, hgv⟩ := id C0
  have hl9 : l.stackTraces = false := by unfold Launch.stackTraces; rw [hflags]; decide +kernel
  have hts : ∀ w ∈ wsL_law, w.before #[Value.ref b] s = true := fun w hw => htt w (wsL_law_in w hw)
  have hf := flat_of_before _ hgv
  have hA : ∀ q : Nat, s.heap.size ≤ q → (fun q : Nat => s.heap.size ≤ q) q := fun _ h => h
  have hnA : ∀ a : Nat, a < s.heap.size → ¬ (fun q : Nat => s.heap.size ≤ q) a := fun a h => Nat.not_le.mpr h
  obtain ⟨k0, i0, hKn0⟩ := u_known (C := RX0) (T := TX0) (N := 2) (n := 2) htt inX0 (hts (.instantiable RX0 2) (by decide +kernel))
  obtain ⟨k1, i1, hKn1⟩ := u_known (C := RX2) (T := TX2) (N := 6) (n := 6) htt inX2 (hts (.instantiable RX2 6) (by decide +kernel))
  obtain ⟨k2, i2, hKn2⟩ := u_known (C := RX3) (T := TX3) (N := 2) (n := 2) htt inX3 (hts (.instantiable RX3 2) (by decide +kernel))
  obtain ⟨k3, i3, hKn3⟩ := u_known (C := RX4) (T := TX4) (N := 5) (n := 5) htt inX4 (hts (.instantiable RX4 5) (by decide +kernel))
  obtain ⟨k4, i4, hKn4⟩ := u_known (C := RX5) (T := TX5) (N := 7) (n := 7) htt inX5 (hts (.instantiable RX5 7) (by decide +kernel))
  obtain ⟨k5, i5, hKn5⟩ := u_known (C := RX6) (T := TX6) (N := 8) (n := 8) htt inX6 (hts (.instantiable RX6 8) (by decide +kernel))
  have hAO3 : va_AO RX3 s := va_AO.of (htt (.arrayOver (.object RX3)) (by decide +kernel))
  have hAO2 : va_AO RX2 s := va_AO.of (htt (.arrayOver (.object RX2)) (by decide +kernel))
  obtain ⟨cI, hcI, hcI2⟩ := zK_arr (hts (.arrayClass .int) (by decide +kernel))
  obtain ⟨cJ, hcJ, hcJ2⟩ := zK_arr (hts (.arrayClass .long) (by decide +kernel))
  obtain ⟨cW, hcW, hcW2⟩ := zK_obj hAO3
  obtain ⟨cP, hcP, hcP2⟩ := zK_obj hAO2
  obtain ⟨D, hKc⟩ : ∃ (D : va_G), ∀ (k : Nat) (q : vw_C), vwCl[k]? = some q → u_Kn s q.1 q.2.1 q.2.2 (D.1 k) (D.2 k) := by
    refine ⟨(fun k => if k = 0 then k0 else if k = 1 then k1 else if k = 2 then k2 else if k = 3 then k3 else if k = 4 then k4 else k5, fun k => if k = 0 then i0 else if k = 1 then i1 else if k = 2 then i2 else if k = 3 then i3 else if k = 4 then i4 else i5), ?_⟩
    intro k q hq
    match k, hq with
    | 0, hq => cases hq; exact hKn0
    | 1, hq => cases hq; exact hKn1
    | 2, hq => cases hq; exact hKn2
    | 3, hq => cases hq; exact hKn3
    | 4, hq => cases hq; exact hKn4
    | 5, hq => cases hq; exact hKn5
    | k + 6, hq => simp [vwCl] at hq
  have hK : va_K D vwCl [(cI, .int), (cW, .object RX3), (cP, .object RX2), (cJ, .long)] s := ⟨hKc, fun k q hq => by
    match k, hq with
    | 0, hq => cases hq; exact ⟨hcI, hcI2⟩
    | 1, hq => cases hq; exact ⟨hcW, hcW2⟩
    | 2, hq => cases hq; exact ⟨hcP, hcP2⟩
    | 3, hq => cases hq; exact ⟨hcJ, hcJ2⟩
    | k + 4, hq => simp at hq⟩
  have hE : zXE s := ⟨va_Nw.of rfl (htt (.methodLinkNest RX5 23 yX4_init RX5) (by decide +kernel)), va_Nw.of rfl (htt (.methodLinkNest RX5 30 yX0_init RX5) (by decide +kernel)), va_Nw.of rfl (htt (.methodLinkNest RX5 42 yX3_init RX5) (by decide +kernel)), hAO3, hAO2⟩
  obtain ⟨c5_, hc5_⟩ := z_found (hts (.initialized RX5) (by decide +kernel))
  have hXT : zXT (fun q : Nat => s.heap.size ≤ q) s := by
    refine ⟨vx_Zqof (htt (.laysStatic Bundle.tN "UNASSIGNED_STACK" Bundle.steD) (by decide +kernel)) (htt (.initialized Bundle.tN) (by decide +kernel)) (hf (.isRef (.static Bundle.tN "UNASSIGNED_STACK" Bundle.steD)) (by decide +kernel)) hnA, vx_Zqof (htt (.laysStatic Bundle.tN "SUPPRESSED_SENTINEL" Bundle.listD) (by decide +kernel)) (htt (.initialized Bundle.tN) (by decide +kernel)) (hf (.isRef (.static Bundle.tN "SUPPRESSED_SENTINEL" Bundle.listD)) (by decide +kernel)) hnA, fun kt hkt => ?_, va_Nc.of (hf (.not (.castable "java/lang/IllegalArgumentException" "java/lang/IndexOutOfBoundsException")) (by decide +kernel)), va_Nc.of (hf (.not (.castable "java/lang/IllegalStateException" "java/lang/IndexOutOfBoundsException")) (by decide +kernel)), va_Nc.of (hf (.not (.castable "java/lang/IllegalStateException" "java/lang/IllegalArgumentException")) (by decide +kernel)), fun x hx => va_Nw.of rfl (htt _ (zDcl_in x hx))⟩
    have h1 := htt _ (zStr_in kt hkt)
    obtain ⟨k, cf, i, a, -, -, -, -, -, h2⟩ := Cond.stringRef_spec (args := #[Value.ref b]) (first := s) (o := none) (idx := []) hc5_ h1
    exact ⟨a, vk_R.of h1 h2⟩
  have hS : va_S (fun q : Nat => s.heap.size ≤ q) s.heap s.heap [] := va_S.rf
  have hP : va_P D vwCl [] s.heap := z_nilP
  have hD : va_D (fun q : Nat => s.heap.size ≤ q) [] := z_nilD
  have hR0 : zRO D [] (fun q : Nat => s.heap.size ≤ q) s := fun k q hk => by simp at hk
  have CF : CallFix p m c code 7 s #[Value.ref b] wsL_law RL := ⟨hx, hb, hml, hown, hts⟩
  have hi5 : ∀ w ∈ wsX50, w ∈ wsL_law := inlX5
  have hi6 : ∀ w ∈ wsX60, w ∈ wsL_law := inlX6
  have hl := lv_entry ([.ref b]) (n := 7) (Nat.le_of_ble_eq_true rfl)
  rw [lg_entry_eq]
  generalize (lg_sl ([.ref b]) ++ List.replicate (7 - (lg_sl ([.ref b])).length) Slot.unset).toArray = ls at hl ⊢
  have hl : lv_has ls 7 [(0, .ref b)] := hl
  refine va_new (ci := 4) (fs := [.null, .null, .int (zI 0), .null, .null, .null, .null]) (C := RX5) (T := TX5) (N := 7) hx hb hts hi5 tyX5 tyX5_ok hown (hts (.classLink RL 8 RX5) (by decide +kernel)) (hts (.instantiable RX5 7) (by decide +kernel)) (hts (.initialized RX5) (by decide +kernel)) hK hP hD hS hA rfl (fun j hj => by rcases (show j = 0 ∨ j = 1 ∨ j = 2 ∨ j = 3 ∨ j = 4 ∨ j = 5 ∨ j = 6 by omega) with rfl | rfl | rfl | rfl | rfl | rfl | rfl <;> rfl) (Nat.le_of_ble_eq_true rfl) (Nat.le_of_ble_eq_true rfl) dL_law_0 (fun q_0 H hP hD hS => ?_)
  have hP : va_P D vwCl [(q_0, .inr (4, [.null, .null, .int (zI 0), .null, .null, .null, .null]))] H := hP
  have hD : va_D (fun q : Nat => s.heap.size ≤ q) [(q_0, .inr (4, [.null, .null, .int (zI 0), .null, .null, .null, .null]))] := hD
  refine W.widen (k := 1) (n := 7) (Nat.le_of_ble_eq_true rfl) (Nat.le_of_ble_eq_true rfl) ?_
  refine lv_dup hx hb dL_law_3 rfl ?_
  have hRc : va_P D vwCl [] H := z_nilP
  have hPc := hP.sub (ws' := [(q_0, .inr (4, [.null, .null, .int (zI 0), .null, .null, .null, .null]))]) [0] rfl
  have hDc := hD.sub (ws' := [(q_0, .inr (4, [.null, .null, .int (zI 0), .null, .null, .null, .null]))]) [0] (by decide) rfl
  refine z_mu (ws := [(q_0, .inr (4, [.null, .null, .int (zI 0), .null, .null, .null, .null]))]) (wc := [(q_0, .inr (4, [.null, .null, .int (zI 0), .null, .null, .null, .null]))]) (wr := []) (va_runI (As := []) (rest := [.ref q_0]) CF (c_X5_init l D cI cW cP q_0 H.size) (cwI 0 hts gL_law_X5_init rfl rfl rfl (hts (.initialized RX5) (by decide +kernel)) (hts (.methodLink RL 65 yX5_init) (by decide +kernel)) (hts (.instanceMethod yX5_init) (by decide +kernel)) rfl (by decide +kernel) ⟨Nat.le_of_ble_eq_true rfl, Nat.le_of_ble_eq_true rfl⟩) (z_preE hE hPc hDc hRc (z_dis (ws := [(q_0, .inr (4, [.null, .null, .int (zI 0), .null, .null, .null, .null]))]) (rs := []) (wc := [(q_0, .inr (4, [.null, .null, .int (zI 0), .null, .null, .null, .null]))]) (rc := []) hD hR0 (isC := [0]) (isR := []) rfl rfl (by decide)) (hK.sub (tys' := [(cI, .int), (cW, .object RX3), (cP, .object RX2)]) [0, 1, 2] rfl)) rfl rfl hl.1 rfl (lv_room (Nat.le_of_ble_eq_true rfl)) dL_law_4 ⟨Nat.le_of_ble_eq_true rfl, Nat.le_of_ble_eq_true rfl⟩) hP hD hS hA [0] [] rfl rfl (by decide) (by decide) (cells' := 22) (slots' := 962) rfl rfl (fun u_4 H locs hp_4 hP hD hS => ?_)
  obtain ⟨w1_4, w2_4, w3_4, m1_4, m2_4, m3_4, m4_4, m5_4, w4_4, v1_4, v2_4, w5_4, w6_4, r0_4, e0_4, r1_4, e1_4, r2_4, e2_4, r3_4, e3_4⟩ := u_4
  have hp_4 : True := hp_4
  have hP := hP.sub (ws' := [(q_0, .inr (4, [.ref w1_4, .ref w2_4, .int (zI 0), .ref w3_4, .ref w4_4, .ref w5_4, .ref w6_4])), (w1_4, .inl (cW, 4, .inr (.inr (.inr (.inr (fun k : Nat => (zV (zV (zV (zV (fun _ => none) 0 (some r0_4)) 1 (some r1_4)) 2 (some r2_4)) 3 (some r3_4)) (k : Int))))))), (w2_4, .inl (cP, 8, .inr (.inr (.inr (.inr (fun k : Nat => (fun _ => none) (k : Int))))))), (w3_4, .inr (3, [.ref m1_4, .ref m2_4, .ref m3_4, .ref m4_4, .ref m5_4])), (m1_4, .inl (cI, 64, .inl (zA (fun _ => 0)))), (m2_4, .inl (cI, 64, .inl (zA (fun _ => 0)))), (m3_4, .inl (cI, 64, .inl (zA (fun _ => 0)))), (m4_4, .inl (cI, 64, .inl (zA (fun _ => 0)))), (m5_4, .inl (cI, 128, .inl (zA (fun _ => 0)))), (w4_4, .inr (0, [.ref v1_4, .ref v2_4])), (v1_4, .inl (cI, 64, .inl (zA (fun _ => 0)))), (v2_4, .inl (cI, 96, .inl (zA (fun _ => 0)))), (w5_4, .inl (cI, 64, .inl (zA (fun _ => 0)))), (w6_4, .inl (cI, 64, .inl (zA (fun _ => 0)))), (r0_4, .inr (2, [.ref e0_4, .int (zI 0)])), (e0_4, .inl (cI, 64, .inl (zA (fun _ => 0)))), (r1_4, .inr (2, [.ref e1_4, .int (zI 0)])), (e1_4, .inl (cI, 64, .inl (zA (fun _ => 0)))), (r2_4, .inr (2, [.ref e2_4, .int (zI 0)])), (e2_4, .inl (cI, 64, .inl (zA (fun _ => 0)))), (r3_4, .inr (2, [.ref e3_4, .int (zI 0)])), (e3_4, .inl (cI, 64, .inl (zA (fun _ => 0))))]) [0, 1, 2, 3, 4, 5, 6, 7, 8, 9, 10, 11, 12, 13, 14, 15, 16, 17, 18, 19, 20, 21] rfl
  have hD := hD.sub (ws' := [(q_0, .inr (4, [.ref w1_4, .ref w2_4, .int (zI 0), .ref w3_4, .ref w4_4, .ref w5_4, .ref w6_4])), (w1_4, .inl (cW, 4, .inr (.inr (.inr (.inr (fun k : Nat => (zV (zV (zV (zV (fun _ => none) 0 (some r0_4)) 1 (some r1_4)) 2 (some r2_4)) 3 (some r3_4)) (k : Int))))))), (w2_4, .inl (cP, 8, .inr (.inr (.inr (.inr (fun k : Nat => (fun _ => none) (k : Int))))))), (w3_4, .inr (3, [.ref m1_4, .ref m2_4, .ref m3_4, .ref m4_4, .ref m5_4])), (m1_4, .inl (cI, 64, .inl (zA (fun _ => 0)))), (m2_4, .inl (cI, 64, .inl (zA (fun _ => 0)))), (m3_4, .inl (cI, 64, .inl (zA (fun _ => 0)))), (m4_4, .inl (cI, 64, .inl (zA (fun _ => 0)))), (m5_4, .inl (cI, 128, .inl (zA (fun _ => 0)))), (w4_4, .inr (0, [.ref v1_4, .ref v2_4])), (v1_4, .inl (cI, 64, .inl (zA (fun _ => 0)))), (v2_4, .inl (cI, 96, .inl (zA (fun _ => 0)))), (w5_4, .inl (cI, 64, .inl (zA (fun _ => 0)))), (w6_4, .inl (cI, 64, .inl (zA (fun _ => 0)))), (r0_4, .inr (2, [.ref e0_4, .int (zI 0)])), (e0_4, .inl (cI, 64, .inl (zA (fun _ => 0)))), (r1_4, .inr (2, [.ref e1_4, .int (zI 0)])), (e1_4, .inl (cI, 64, .inl (zA (fun _ => 0)))), (r2_4, .inr (2, [.ref e2_4, .int (zI 0)])), (e2_4, .inl (cI, 64, .inl (zA (fun _ => 0)))), (r3_4, .inr (2, [.ref e3_4, .int (zI 0)])), (e3_4, .inl (cI, 64, .inl (zA (fun _ => 0))))]) [0, 1, 2, 3, 4, 5, 6, 7, 8, 9, 10, 11, 12, 13, 14, 15, 16, 17, 18, 19, 20, 21] (by decide) rfl
  refine lv_astore_n (lv' := [(1, .ref q_0), (0, .ref b)]) hx hb dL_law_7 rfl hl (by decide) rfl (fun ls hl => ?_)
  have hl := lv_sub hl [1, 0] rfl
  have hl : lv_has ls 7 [(0, .ref b), (1, .ref q_0)] := hl
  refine va_new (ci := 5) (fs := [.null, .null, .null, .null, .null, .int (zI 0), .null, .int (zI 0)]) (C := RX6) (T := TX6) (N := 8) hx hb hts hi6 tyX6 tyX6_ok hown (hts (.classLink RL 66 RX6) (by decide +kernel)) (hts (.instantiable RX6 8) (by decide +kernel)) (hts (.initialized RX6) (by decide +kernel)) hK hP hD hS hA rfl (fun j hj => by rcases (show j = 0 ∨ j = 1 ∨ j = 2 ∨ j = 3 ∨ j = 4 ∨ j = 5 ∨ j = 6 ∨ j = 7 by omega) with rfl | rfl | rfl | rfl | rfl | rfl | rfl | rfl <;> rfl) (Nat.le_of_ble_eq_true rfl) (Nat.le_of_ble_eq_true rfl) dL_law_8 (fun q_8 H hP hD hS => ?_)
  have hP : va_P D vwCl [(q_0, .inr (4, [.ref w1_4, .ref w2_4, .int (zI 0), .ref w3_4, .ref w4_4, .ref w5_4, .ref w6_4])), (w1_4, .inl (cW, 4, .inr (.inr (.inr (.inr (fun k : Nat => (zV (zV (zV (zV (fun _ => none) 0 (some r0_4)) 1 (some r1_4)) 2 (some r2_4)) 3 (some r3_4)) (k : Int))))))), (w2_4, .inl (cP, 8, .inr (.inr (.inr (.inr (fun k : Nat => (fun _ => none) (k : Int))))))), (w3_4, .inr (3, [.ref m1_4, .ref m2_4, .ref m3_4, .ref m4_4, .ref m5_4])), (m1_4, .inl (cI, 64, .inl (zA (fun _ => 0)))), (m2_4, .inl (cI, 64, .inl (zA (fun _ => 0)))), (m3_4, .inl (cI, 64, .inl (zA (fun _ => 0)))), (m4_4, .inl (cI, 64, .inl (zA (fun _ => 0)))), (m5_4, .inl (cI, 128, .inl (zA (fun _ => 0)))), (w4_4, .inr (0, [.ref v1_4, .ref v2_4])), (v1_4, .inl (cI, 64, .inl (zA (fun _ => 0)))), (v2_4, .inl (cI, 96, .inl (zA (fun _ => 0)))), (w5_4, .inl (cI, 64, .inl (zA (fun _ => 0)))), (w6_4, .inl (cI, 64, .inl (zA (fun _ => 0)))), (r0_4, .inr (2, [.ref e0_4, .int (zI 0)])), (e0_4, .inl (cI, 64, .inl (zA (fun _ => 0)))), (r1_4, .inr (2, [.ref e1_4, .int (zI 0)])), (e1_4, .inl (cI, 64, .inl (zA (fun _ => 0)))), (r2_4, .inr (2, [.ref e2_4, .int (zI 0)])), (e2_4, .inl (cI, 64, .inl (zA (fun _ => 0)))), (r3_4, .inr (2, [.ref e3_4, .int (zI 0)])), (e3_4, .inl (cI, 64, .inl (zA (fun _ => 0)))), (q_8, .inr (5, [.null, .null, .null, .null, .null, .int (zI 0), .null, .int (zI 0)]))] H := hP
  have hD : va_D (fun q : Nat => s.heap.size ≤ q) [(q_0, .inr (4, [.ref w1_4, .ref w2_4, .int (zI 0), .ref w3_4, .ref w4_4, .ref w5_4, .ref w6_4])), (w1_4, .inl (cW, 4, .inr (.inr (.inr (.inr (fun k : Nat => (zV (zV (zV (zV (fun _ => none) 0 (some r0_4)) 1 (some r1_4)) 2 (some r2_4)) 3 (some r3_4)) (k : Int))))))), (w2_4, .inl (cP, 8, .inr (.inr (.inr (.inr (fun k : Nat => (fun _ => none) (k : Int))))))), (w3_4, .inr (3, [.ref m1_4, .ref m2_4, .ref m3_4, .ref m4_4, .ref m5_4])), (m1_4, .inl (cI, 64, .inl (zA (fun _ => 0)))), (m2_4, .inl (cI, 64, .inl (zA (fun _ => 0)))), (m3_4, .inl (cI, 64, .inl (zA (fun _ => 0)))), (m4_4, .inl (cI, 64, .inl (zA (fun _ => 0)))), (m5_4, .inl (cI, 128, .inl (zA (fun _ => 0)))), (w4_4, .inr (0, [.ref v1_4, .ref v2_4])), (v1_4, .inl (cI, 64, .inl (zA (fun _ => 0)))), (v2_4, .inl (cI, 96, .inl (zA (fun _ => 0)))), (w5_4, .inl (cI, 64, .inl (zA (fun _ => 0)))), (w6_4, .inl (cI, 64, .inl (zA (fun _ => 0)))), (r0_4, .inr (2, [.ref e0_4, .int (zI 0)])), (e0_4, .inl (cI, 64, .inl (zA (fun _ => 0)))), (r1_4, .inr (2, [.ref e1_4, .int (zI 0)])), (e1_4, .inl (cI, 64, .inl (zA (fun _ => 0)))), (r2_4, .inr (2, [.ref e2_4, .int (zI 0)])), (e2_4, .inl (cI, 64, .inl (zA (fun _ => 0)))), (r3_4, .inr (2, [.ref e3_4, .int (zI 0)])), (e3_4, .inl (cI, 64, .inl (zA (fun _ => 0)))), (q_8, .inr (5, [.null, .null, .null, .null, .null, .int (zI 0), .null, .int (zI 0)]))] := hD
  refine W.widen (k := 23) (n := 970) (Nat.le_of_ble_eq_true rfl) (Nat.le_of_ble_eq_true rfl) ?_
  refine lv_dup hx hb dL_law_11 rfl ?_
  have hRc : va_P D vwCl [] H := z_nilP
  have hPc := hP.sub (ws' := [(q_8, .inr (5, [.null, .null, .null, .null, .null, .int (zI 0), .null, .int (zI 0)]))]) [22] rfl
  have hDc := hD.sub (ws' := [(q_8, .inr (5, [.null, .null, .null, .null, .null, .int (zI 0), .null, .int (zI 0)]))]) [22] (by decide) rfl
  refine z_mu (ws := [(q_0, .inr (4, [.ref w1_4, .ref w2_4, .int (zI 0), .ref w3_4, .ref w4_4, .ref w5_4, .ref w6_4])), (w1_4, .inl (cW, 4, .inr (.inr (.inr (.inr (fun k : Nat => (zV (zV (zV (zV (fun _ => none) 0 (some r0_4)) 1 (some r1_4)) 2 (some r2_4)) 3 (some r3_4)) (k : Int))))))), (w2_4, .inl (cP, 8, .inr (.inr (.inr (.inr (fun k : Nat => (fun _ => none) (k : Int))))))), (w3_4, .inr (3, [.ref m1_4, .ref m2_4, .ref m3_4, .ref m4_4, .ref m5_4])), (m1_4, .inl (cI, 64, .inl (zA (fun _ => 0)))), (m2_4, .inl (cI, 64, .inl (zA (fun _ => 0)))), (m3_4, .inl (cI, 64, .inl (zA (fun _ => 0)))), (m4_4, .inl (cI, 64, .inl (zA (fun _ => 0)))), (m5_4, .inl (cI, 128, .inl (zA (fun _ => 0)))), (w4_4, .inr (0, [.ref v1_4, .ref v2_4])), (v1_4, .inl (cI, 64, .inl (zA (fun _ => 0)))), (v2_4, .inl (cI, 96, .inl (zA (fun _ => 0)))), (w5_4, .inl (cI, 64, .inl (zA (fun _ => 0)))), (w6_4, .inl (cI, 64, .inl (zA (fun _ => 0)))), (r0_4, .inr (2, [.ref e0_4, .int (zI 0)])), (e0_4, .inl (cI, 64, .inl (zA (fun _ => 0)))), (r1_4, .inr (2, [.ref e1_4, .int (zI 0)])), (e1_4, .inl (cI, 64, .inl (zA (fun _ => 0)))), (r2_4, .inr (2, [.ref e2_4, .int (zI 0)])), (e2_4, .inl (cI, 64, .inl (zA (fun _ => 0)))), (r3_4, .inr (2, [.ref e3_4, .int (zI 0)])), (e3_4, .inl (cI, 64, .inl (zA (fun _ => 0)))), (q_8, .inr (5, [.null, .null, .null, .null, .null, .int (zI 0), .null, .int (zI 0)]))]) (wc := [(q_8, .inr (5, [.null, .null, .null, .null, .null, .int (zI 0), .null, .int (zI 0)]))]) (wr := [(q_0, .inr (4, [.ref w1_4, .ref w2_4, .int (zI 0), .ref w3_4, .ref w4_4, .ref w5_4, .ref w6_4])), (w1_4, .inl (cW, 4, .inr (.inr (.inr (.inr (fun k : Nat => (zV (zV (zV (zV (fun _ => none) 0 (some r0_4)) 1 (some r1_4)) 2 (some r2_4)) 3 (some r3_4)) (k : Int))))))), (w2_4, .inl (cP, 8, .inr (.inr (.inr (.inr (fun k : Nat => (fun _ => none) (k : Int))))))), (w3_4, .inr (3, [.ref m1_4, .ref m2_4, .ref m3_4, .ref m4_4, .ref m5_4])), (m1_4, .inl (cI, 64, .inl (zA (fun _ => 0)))), (m2_4, .inl (cI, 64, .inl (zA (fun _ => 0)))), (m3_4, .inl (cI, 64, .inl (zA (fun _ => 0)))), (m4_4, .inl (cI, 64, .inl (zA (fun _ => 0)))), (m5_4, .inl (cI, 128, .inl (zA (fun _ => 0)))), (w4_4, .inr (0, [.ref v1_4, .ref v2_4])), (v1_4, .inl (cI, 64, .inl (zA (fun _ => 0)))), (v2_4, .inl (cI, 96, .inl (zA (fun _ => 0)))), (w5_4, .inl (cI, 64, .inl (zA (fun _ => 0)))), (w6_4, .inl (cI, 64, .inl (zA (fun _ => 0)))), (r0_4, .inr (2, [.ref e0_4, .int (zI 0)])), (e0_4, .inl (cI, 64, .inl (zA (fun _ => 0)))), (r1_4, .inr (2, [.ref e1_4, .int (zI 0)])), (e1_4, .inl (cI, 64, .inl (zA (fun _ => 0)))), (r2_4, .inr (2, [.ref e2_4, .int (zI 0)])), (e2_4, .inl (cI, 64, .inl (zA (fun _ => 0)))), (r3_4, .inr (2, [.ref e3_4, .int (zI 0)])), (e3_4, .inl (cI, 64, .inl (zA (fun _ => 0))))]) (va_runI (As := []) (rest := [.ref q_8]) CF (c_X6_init l D cI q_8 H.size) (cwI 0 hts gL_law_X6_init rfl rfl rfl (hts (.initialized RX6) (by decide +kernel)) (hts (.methodLink RL 68 yX6_init) (by decide +kernel)) (hts (.instanceMethod yX6_init) (by decide +kernel)) rfl (by decide +kernel) ⟨Nat.le_of_ble_eq_true rfl, Nat.le_of_ble_eq_true rfl⟩) (z_preS hPc hDc hRc (z_dis (ws := [(q_0, .inr (4, [.ref w1_4, .ref w2_4, .int (zI 0), .ref w3_4, .ref w4_4, .ref w5_4, .ref w6_4])), (w1_4, .inl (cW, 4, .inr (.inr (.inr (.inr (fun k : Nat => (zV (zV (zV (zV (fun _ => none) 0 (some r0_4)) 1 (some r1_4)) 2 (some r2_4)) 3 (some r3_4)) (k : Int))))))), (w2_4, .inl (cP, 8, .inr (.inr (.inr (.inr (fun k : Nat => (fun _ => none) (k : Int))))))), (w3_4, .inr (3, [.ref m1_4, .ref m2_4, .ref m3_4, .ref m4_4, .ref m5_4])), (m1_4, .inl (cI, 64, .inl (zA (fun _ => 0)))), (m2_4, .inl (cI, 64, .inl (zA (fun _ => 0)))), (m3_4, .inl (cI, 64, .inl (zA (fun _ => 0)))), (m4_4, .inl (cI, 64, .inl (zA (fun _ => 0)))), (m5_4, .inl (cI, 128, .inl (zA (fun _ => 0)))), (w4_4, .inr (0, [.ref v1_4, .ref v2_4])), (v1_4, .inl (cI, 64, .inl (zA (fun _ => 0)))), (v2_4, .inl (cI, 96, .inl (zA (fun _ => 0)))), (w5_4, .inl (cI, 64, .inl (zA (fun _ => 0)))), (w6_4, .inl (cI, 64, .inl (zA (fun _ => 0)))), (r0_4, .inr (2, [.ref e0_4, .int (zI 0)])), (e0_4, .inl (cI, 64, .inl (zA (fun _ => 0)))), (r1_4, .inr (2, [.ref e1_4, .int (zI 0)])), (e1_4, .inl (cI, 64, .inl (zA (fun _ => 0)))), (r2_4, .inr (2, [.ref e2_4, .int (zI 0)])), (e2_4, .inl (cI, 64, .inl (zA (fun _ => 0)))), (r3_4, .inr (2, [.ref e3_4, .int (zI 0)])), (e3_4, .inl (cI, 64, .inl (zA (fun _ => 0)))), (q_8, .inr (5, [.null, .null, .null, .null, .null, .int (zI 0), .null, .int (zI 0)]))]) (rs := []) (wc := [(q_8, .inr (5, [.null, .null, .null, .null, .null, .int (zI 0), .null, .int (zI 0)]))]) (rc := []) hD hR0 (isC := [22]) (isR := []) rfl rfl (by decide)) (hK.sub (tys' := [(cI, .int)]) [0] rfl)) rfl rfl hl.1 rfl (lv_room (Nat.le_of_ble_eq_true rfl)) dL_law_12 ⟨Nat.le_of_ble_eq_true rfl, Nat.le_of_ble_eq_true rfl⟩) hP hD hS hA [22] [0, 1, 2, 3, 4, 5, 6, 7, 8, 9, 10, 11, 12, 13, 14, 15, 16, 17, 18, 19, 20, 21] rfl rfl (by decide) (by decide) (cells' := 29) (slots' := 1318) rfl rfl (fun u_12 H locs hp_12 hP hD hS => ?_)
  obtain ⟨q1_12, q2_12, q3_12, q4_12, q5_12, q6_12⟩ := u_12
  have hp_12 : True := hp_12
  have hP := hP.sub (ws' := [(q_0, .inr (4, [.ref w1_4, .ref w2_4, .int (zI 0), .ref w3_4, .ref w4_4, .ref w5_4, .ref w6_4])), (w1_4, .inl (cW, 4, .inr (.inr (.inr (.inr (fun k : Nat => (zV (zV (zV (zV (fun _ => none) 0 (some r0_4)) 1 (some r1_4)) 2 (some r2_4)) 3 (some r3_4)) (k : Int))))))), (w2_4, .inl (cP, 8, .inr (.inr (.inr (.inr (fun k : Nat => (fun _ => none) (k : Int))))))), (w3_4, .inr (3, [.ref m1_4, .ref m2_4, .ref m3_4, .ref m4_4, .ref m5_4])), (m1_4, .inl (cI, 64, .inl (zA (fun _ => 0)))), (m2_4, .inl (cI, 64, .inl (zA (fun _ => 0)))), (m3_4, .inl (cI, 64, .inl (zA (fun _ => 0)))), (m4_4, .inl (cI, 64, .inl (zA (fun _ => 0)))), (m5_4, .inl (cI, 128, .inl (zA (fun _ => 0)))), (w4_4, .inr (0, [.ref v1_4, .ref v2_4])), (v1_4, .inl (cI, 64, .inl (zA (fun _ => 0)))), (v2_4, .inl (cI, 96, .inl (zA (fun _ => 0)))), (w5_4, .inl (cI, 64, .inl (zA (fun _ => 0)))), (w6_4, .inl (cI, 64, .inl (zA (fun _ => 0)))), (r0_4, .inr (2, [.ref e0_4, .int (zI 0)])), (e0_4, .inl (cI, 64, .inl (zA (fun _ => 0)))), (r1_4, .inr (2, [.ref e1_4, .int (zI 0)])), (e1_4, .inl (cI, 64, .inl (zA (fun _ => 0)))), (r2_4, .inr (2, [.ref e2_4, .int (zI 0)])), (e2_4, .inl (cI, 64, .inl (zA (fun _ => 0)))), (r3_4, .inr (2, [.ref e3_4, .int (zI 0)])), (e3_4, .inl (cI, 64, .inl (zA (fun _ => 0)))), (q_8, .inr (5, [.ref q1_12, .ref q2_12, .ref q3_12, .ref q4_12, .ref q5_12, .int (zI 0), .ref q6_12, .int (zI 0)])), (q1_12, .inl (cI, 256, .inl (zA (fun _ => 0)))), (q2_12, .inl (cI, 4, .inl (zA (fun _ => 0)))), (q3_12, .inl (cI, 8, .inl (zA (fun _ => 0)))), (q4_12, .inl (cI, 8, .inl (zA (fun _ => 0)))), (q5_12, .inl (cI, 8, .inl (zA (fun _ => 0)))), (q6_12, .inl (cI, 64, .inl (zA (fun _ => 0))))]) [0, 1, 2, 3, 4, 5, 6, 7, 8, 9, 10, 11, 12, 13, 14, 15, 16, 17, 18, 19, 20, 21, 22, 23, 24, 25, 26, 27, 28] rfl
  have hD := hD.sub (ws' := [(q_0, .inr (4, [.ref w1_4, .ref w2_4, .int (zI 0), .ref w3_4, .ref w4_4, .ref w5_4, .ref w6_4])), (w1_4, .inl (cW, 4, .inr (.inr (.inr (.inr (fun k : Nat => (zV (zV (zV (zV (fun _ => none) 0 (some r0_4)) 1 (some r1_4)) 2 (some r2_4)) 3 (some r3_4)) (k : Int))))))), (w2_4, .inl (cP, 8, .inr (.inr (.inr (.inr (fun k : Nat => (fun _ => none) (k : Int))))))), (w3_4, .inr (3, [.ref m1_4, .ref m2_4, .ref m3_4, .ref m4_4, .ref m5_4])), (m1_4, .inl (cI, 64, .inl (zA (fun _ => 0)))), (m2_4, .inl (cI, 64, .inl (zA (fun _ => 0)))), (m3_4, .inl (cI, 64, .inl (zA (fun _ => 0)))), (m4_4, .inl (cI, 64, .inl (zA (fun _ => 0)))), (m5_4, .inl (cI, 128, .inl (zA (fun _ => 0)))), (w4_4, .inr (0, [.ref v1_4, .ref v2_4])), (v1_4, .inl (cI, 64, .inl (zA (fun _ => 0)))), (v2_4, .inl (cI, 96, .inl (zA (fun _ => 0)))), (w5_4, .inl (cI, 64, .inl (zA (fun _ => 0)))), (w6_4, .inl (cI, 64, .inl (zA (fun _ => 0)))), (r0_4, .inr (2, [.ref e0_4, .int (zI 0)])), (e0_4, .inl (cI, 64, .inl (zA (fun _ => 0)))), (r1_4, .inr (2, [.ref e1_4, .int (zI 0)])), (e1_4, .inl (cI, 64, .inl (zA (fun _ => 0)))), (r2_4, .inr (2, [.ref e2_4, .int (zI 0)])), (e2_4, .inl (cI, 64, .inl (zA (fun _ => 0)))), (r3_4, .inr (2, [.ref e3_4, .int (zI 0)])), (e3_4, .inl (cI, 64, .inl (zA (fun _ => 0)))), (q_8, .inr (5, [.ref q1_12, .ref q2_12, .ref q3_12, .ref q4_12, .ref q5_12, .int (zI 0), .ref q6_12, .int (zI 0)])), (q1_12, .inl (cI, 256, .inl (zA (fun _ => 0)))), (q2_12, .inl (cI, 4, .inl (zA (fun _ => 0)))), (q3_12, .inl (cI, 8, .inl (zA (fun _ => 0)))), (q4_12, .inl (cI, 8, .inl (zA (fun _ => 0)))), (q5_12, .inl (cI, 8, .inl (zA (fun _ => 0)))), (q6_12, .inl (cI, 64, .inl (zA (fun _ => 0))))]) [0, 1, 2, 3, 4, 5, 6, 7, 8, 9, 10, 11, 12, 13, 14, 15, 16, 17, 18, 19, 20, 21, 22, 23, 24, 25, 26, 27, 28] (by decide) rfl
  refine lv_astore_n (lv' := [(2, .ref q_8), (0, .ref b), (1, .ref q_0)]) hx hb dL_law_15 rfl hl (by decide) rfl (fun ls hl => ?_)
  have hl := lv_sub hl [1, 2, 0] rfl
  have hl : lv_has ls 7 [(0, .ref b), (1, .ref q_0), (2, .ref q_8)] := hl
  refine z_iconst hx hb dL_law_16 ?_
  refine z_newl (cA := cJ) (N := 1) hx hb (hts (.arrayClass .long) (by decide +kernel)) hK 3 rfl hP hD hS hA rfl rfl (Nat.le_of_ble_eq_true rfl) (Nat.le_of_ble_eq_true rfl) dL_law_17 (fun q_17 H hP hD hS => ?_)
  have hP : va_P D vwCl [(q_0, .inr (4, [.ref w1_4, .ref w2_4, .int (zI 0), .ref w3_4, .ref w4_4, .ref w5_4, .ref w6_4])), (w1_4, .inl (cW, 4, .inr (.inr (.inr (.inr (fun k : Nat => (zV (zV (zV (zV (fun _ => none) 0 (some r0_4)) 1 (some r1_4)) 2 (some r2_4)) 3 (some r3_4)) (k : Int))))))), (w2_4, .inl (cP, 8, .inr (.inr (.inr (.inr (fun k : Nat => (fun _ => none) (k : Int))))))), (w3_4, .inr (3, [.ref m1_4, .ref m2_4, .ref m3_4, .ref m4_4, .ref m5_4])), (m1_4, .inl (cI, 64, .inl (zA (fun _ => 0)))), (m2_4, .inl (cI, 64, .inl (zA (fun _ => 0)))), (m3_4, .inl (cI, 64, .inl (zA (fun _ => 0)))), (m4_4, .inl (cI, 64, .inl (zA (fun _ => 0)))), (m5_4, .inl (cI, 128, .inl (zA (fun _ => 0)))), (w4_4, .inr (0, [.ref v1_4, .ref v2_4])), (v1_4, .inl (cI, 64, .inl (zA (fun _ => 0)))), (v2_4, .inl (cI, 96, .inl (zA (fun _ => 0)))), (w5_4, .inl (cI, 64, .inl (zA (fun _ => 0)))), (w6_4, .inl (cI, 64, .inl (zA (fun _ => 0)))), (r0_4, .inr (2, [.ref e0_4, .int (zI 0)])), (e0_4, .inl (cI, 64, .inl (zA (fun _ => 0)))), (r1_4, .inr (2, [.ref e1_4, .int (zI 0)])), (e1_4, .inl (cI, 64, .inl (zA (fun _ => 0)))), (r2_4, .inr (2, [.ref e2_4, .int (zI 0)])), (e2_4, .inl (cI, 64, .inl (zA (fun _ => 0)))), (r3_4, .inr (2, [.ref e3_4, .int (zI 0)])), (e3_4, .inl (cI, 64, .inl (zA (fun _ => 0)))), (q_8, .inr (5, [.ref q1_12, .ref q2_12, .ref q3_12, .ref q4_12, .ref q5_12, .int (zI 0), .ref q6_12, .int (zI 0)])), (q1_12, .inl (cI, 256, .inl (zA (fun _ => 0)))), (q2_12, .inl (cI, 4, .inl (zA (fun _ => 0)))), (q3_12, .inl (cI, 8, .inl (zA (fun _ => 0)))), (q4_12, .inl (cI, 8, .inl (zA (fun _ => 0)))), (q5_12, .inl (cI, 8, .inl (zA (fun _ => 0)))), (q6_12, .inl (cI, 64, .inl (zA (fun _ => 0)))), (q_17, .inl (cJ, 1, .inr (.inl (fun _ => zL 0))))] H := hP
  have hD : va_D (fun q : Nat => s.heap.size ≤ q) [(q_0, .inr (4, [.ref w1_4, .ref w2_4, .int (zI 0), .ref w3_4, .ref w4_4, .ref w5_4, .ref w6_4])), (w1_4, .inl (cW, 4, .inr (.inr (.inr (.inr (fun k : Nat => (zV (zV (zV (zV (fun _ => none) 0 (some r0_4)) 1 (some r1_4)) 2 (some r2_4)) 3 (some r3_4)) (k : Int))))))), (w2_4, .inl (cP, 8, .inr (.inr (.inr (.inr (fun k : Nat => (fun _ => none) (k : Int))))))), (w3_4, .inr (3, [.ref m1_4, .ref m2_4, .ref m3_4, .ref m4_4, .ref m5_4])), (m1_4, .inl (cI, 64, .inl (zA (fun _ => 0)))), (m2_4, .inl (cI, 64, .inl (zA (fun _ => 0)))), (m3_4, .inl (cI, 64, .inl (zA (fun _ => 0)))), (m4_4, .inl (cI, 64, .inl (zA (fun _ => 0)))), (m5_4, .inl (cI, 128, .inl (zA (fun _ => 0)))), (w4_4, .inr (0, [.ref v1_4, .ref v2_4])), (v1_4, .inl (cI, 64, .inl (zA (fun _ => 0)))), (v2_4, .inl (cI, 96, .inl (zA (fun _ => 0)))), (w5_4, .inl (cI, 64, .inl (zA (fun _ => 0)))), (w6_4, .inl (cI, 64, .inl (zA (fun _ => 0)))), (r0_4, .inr (2, [.ref e0_4, .int (zI 0)])), (e0_4, .inl (cI, 64, .inl (zA (fun _ => 0)))), (r1_4, .inr (2, [.ref e1_4, .int (zI 0)])), (e1_4, .inl (cI, 64, .inl (zA (fun _ => 0)))), (r2_4, .inr (2, [.ref e2_4, .int (zI 0)])), (e2_4, .inl (cI, 64, .inl (zA (fun _ => 0)))), (r3_4, .inr (2, [.ref e3_4, .int (zI 0)])), (e3_4, .inl (cI, 64, .inl (zA (fun _ => 0)))), (q_8, .inr (5, [.ref q1_12, .ref q2_12, .ref q3_12, .ref q4_12, .ref q5_12, .int (zI 0), .ref q6_12, .int (zI 0)])), (q1_12, .inl (cI, 256, .inl (zA (fun _ => 0)))), (q2_12, .inl (cI, 4, .inl (zA (fun _ => 0)))), (q3_12, .inl (cI, 8, .inl (zA (fun _ => 0)))), (q4_12, .inl (cI, 8, .inl (zA (fun _ => 0)))), (q5_12, .inl (cI, 8, .inl (zA (fun _ => 0)))), (q6_12, .inl (cI, 64, .inl (zA (fun _ => 0)))), (q_17, .inl (cJ, 1, .inr (.inl (fun _ => zL 0))))] := hD
  refine W.widen (k := 30) (n := 1319) (Nat.le_of_ble_eq_true rfl) (Nat.le_of_ble_eq_true rfl) ?_
  refine lv_astore_n (lv' := [(3, .ref q_17), (0, .ref b), (1, .ref q_0), (2, .ref q_8)]) hx hb dL_law_19 rfl hl (by decide) rfl (fun ls hl => ?_)
  have hl := lv_sub hl [1, 2, 3, 0] rfl
  have hl : lv_has ls 7 [(0, .ref b), (1, .ref q_0), (2, .ref q_8), (3, .ref q_17)] := hl
  refine z_iconst hx hb dL_law_20 ?_
  refine lv_istore (lv' := [(4, .int (zI 0)), (0, .ref b), (1, .ref q_0), (2, .ref q_8), (3, .ref q_17)]) hx hb dL_law_21 hl (by decide) rfl (fun ls hl => ?_)
  have hl := lv_sub hl [1, 2, 3, 4, 0] rfl
  have hl : lv_has ls 7 [(0, .ref b), (1, .ref q_0), (2, .ref q_8), (3, .ref q_17), (4, .int (zI 0))] := hl
  have hP := hP.sub (ws' := [(r0_4, .inr (2, [.ref e0_4, .int (zI 0)])), (e0_4, .inl (cI, 64, .inl (zA (fun _ => 0)))), (r1_4, .inr (2, [.ref e1_4, .int (zI 0)])), (e1_4, .inl (cI, 64, .inl (zA (fun _ => 0)))), (r2_4, .inr (2, [.ref e2_4, .int (zI 0)])), (e2_4, .inl (cI, 64, .inl (zA (fun _ => 0)))), (r3_4, .inr (2, [.ref e3_4, .int (zI 0)])), (e3_4, .inl (cI, 64, .inl (zA (fun _ => 0)))), (q_0, .inr (4, [.ref w1_4, .ref w2_4, .int (zI 0), .ref w3_4, .ref w4_4, .ref w5_4, .ref w6_4])), (w1_4, .inl (cW, 4, .inr (.inr (.inr (.inr (fun k : Nat => (zV (zV (zV (zV (fun _ => none) 0 (some r0_4)) 1 (some r1_4)) 2 (some r2_4)) 3 (some r3_4)) (k : Int))))))), (w2_4, .inl (cP, 8, .inr (.inr (.inr (.inr (fun k : Nat => (fun _ => none) (k : Int))))))), (w3_4, .inr (3, [.ref m1_4, .ref m2_4, .ref m3_4, .ref m4_4, .ref m5_4])), (w4_4, .inr (0, [.ref v1_4, .ref v2_4])), (w5_4, .inl (cI, 64, .inl (zA (fun _ => 0)))), (w6_4, .inl (cI, 64, .inl (zA (fun _ => 0)))), (m1_4, .inl (cI, 64, .inl (zA (fun _ => 0)))), (m2_4, .inl (cI, 64, .inl (zA (fun _ => 0)))), (m3_4, .inl (cI, 64, .inl (zA (fun _ => 0)))), (m4_4, .inl (cI, 64, .inl (zA (fun _ => 0)))), (m5_4, .inl (cI, 128, .inl (zA (fun _ => 0)))), (v1_4, .inl (cI, 64, .inl (zA (fun _ => 0)))), (v2_4, .inl (cI, 96, .inl (zA (fun _ => 0)))), (q_17, .inl (cJ, 1, .inr (.inl (fun _ => zL 0)))), (q_8, .inr (5, [.ref q1_12, .ref q2_12, .ref q3_12, .ref q4_12, .ref q5_12, .int (zI 0), .ref q6_12, .int (zI 0)])), (q1_12, .inl (cI, 256, .inl (zA (fun _ => 0)))), (q2_12, .inl (cI, 4, .inl (zA (fun _ => 0)))), (q3_12, .inl (cI, 8, .inl (zA (fun _ => 0)))), (q4_12, .inl (cI, 8, .inl (zA (fun _ => 0)))), (q5_12, .inl (cI, 8, .inl (zA (fun _ => 0)))), (q6_12, .inl (cI, 64, .inl (zA (fun _ => 0))))]) [14, 15, 16, 17, 18, 19, 20, 21, 0, 1, 2, 3, 9, 12, 13, 4, 5, 6, 7, 8, 10, 11, 29, 22, 23, 24, 25, 26, 27, 28] rfl
  have hD := hD.sub (ws' := [(r0_4, .inr (2, [.ref e0_4, .int (zI 0)])), (e0_4, .inl (cI, 64, .inl (zA (fun _ => 0)))), (r1_4, .inr (2, [.ref e1_4, .int (zI 0)])), (e1_4, .inl (cI, 64, .inl (zA (fun _ => 0)))), (r2_4, .inr (2, [.ref e2_4, .int (zI 0)])), (e2_4, .inl (cI, 64, .inl (zA (fun _ => 0)))), (r3_4, .inr (2, [.ref e3_4, .int (zI 0)])), (e3_4, .inl (cI, 64, .inl (zA (fun _ => 0)))), (q_0, .inr (4, [.ref w1_4, .ref w2_4, .int (zI 0), .ref w3_4, .ref w4_4, .ref w5_4, .ref w6_4])), (w1_4, .inl (cW, 4, .inr (.inr (.inr (.inr (fun k : Nat => (zV (zV (zV (zV (fun _ => none) 0 (some r0_4)) 1 (some r1_4)) 2 (some r2_4)) 3 (some r3_4)) (k : Int))))))), (w2_4, .inl (cP, 8, .inr (.inr (.inr (.inr (fun k : Nat => (fun _ => none) (k : Int))))))), (w3_4, .inr (3, [.ref m1_4, .ref m2_4, .ref m3_4, .ref m4_4, .ref m5_4])), (w4_4, .inr (0, [.ref v1_4, .ref v2_4])), (w5_4, .inl (cI, 64, .inl (zA (fun _ => 0)))), (w6_4, .inl (cI, 64, .inl (zA (fun _ => 0)))), (m1_4, .inl (cI, 64, .inl (zA (fun _ => 0)))), (m2_4, .inl (cI, 64, .inl (zA (fun _ => 0)))), (m3_4, .inl (cI, 64, .inl (zA (fun _ => 0)))), (m4_4, .inl (cI, 64, .inl (zA (fun _ => 0)))), (m5_4, .inl (cI, 128, .inl (zA (fun _ => 0)))), (v1_4, .inl (cI, 64, .inl (zA (fun _ => 0)))), (v2_4, .inl (cI, 96, .inl (zA (fun _ => 0)))), (q_17, .inl (cJ, 1, .inr (.inl (fun _ => zL 0)))), (q_8, .inr (5, [.ref q1_12, .ref q2_12, .ref q3_12, .ref q4_12, .ref q5_12, .int (zI 0), .ref q6_12, .int (zI 0)])), (q1_12, .inl (cI, 256, .inl (zA (fun _ => 0)))), (q2_12, .inl (cI, 4, .inl (zA (fun _ => 0)))), (q3_12, .inl (cI, 8, .inl (zA (fun _ => 0)))), (q4_12, .inl (cI, 8, .inl (zA (fun _ => 0)))), (q5_12, .inl (cI, 8, .inl (zA (fun _ => 0)))), (q6_12, .inl (cI, 64, .inl (zA (fun _ => 0))))]) [14, 15, 16, 17, 18, 19, 20, 21, 0, 1, 2, 3, 9, 12, 13, 4, 5, 6, 7, 8, 10, 11, 29, 22, 23, 24, 25, 26, 27, 28] (by decide) rfl
  have hH := zHs_of (K := zYK 0) (W := zY cI cW cP cJ (zAD0 r0_4 e0_4 r1_4 e1_4 r2_4 e2_4 r3_4 e3_4 q_0 w1_4 w2_4 w3_4 w4_4 w5_4 w6_4 m1_4 m2_4 m3_4 m4_4 m5_4 v1_4 v2_4 q_17) (fun _ _ => 0) (fun _ => 0) 0 (fun _ => 0) (fun _ => 0) (fun _ => none) (fun _ => zL 0)) (wY := [(r0_4, .inr (2, [.ref e0_4, .int (zI 0)])), (e0_4, .inl (cI, 64, .inl (zA (fun _ => 0)))), (r1_4, .inr (2, [.ref e1_4, .int (zI 0)])), (e1_4, .inl (cI, 64, .inl (zA (fun _ => 0)))), (r2_4, .inr (2, [.ref e2_4, .int (zI 0)])), (e2_4, .inl (cI, 64, .inl (zA (fun _ => 0)))), (r3_4, .inr (2, [.ref e3_4, .int (zI 0)])), (e3_4, .inl (cI, 64, .inl (zA (fun _ => 0)))), (q_0, .inr (4, [.ref w1_4, .ref w2_4, .int (zI 0), .ref w3_4, .ref w4_4, .ref w5_4, .ref w6_4])), (w1_4, .inl (cW, 4, .inr (.inr (.inr (.inr (fun k : Nat => (zV (zV (zV (zV (fun _ => none) 0 (some r0_4)) 1 (some r1_4)) 2 (some r2_4)) 3 (some r3_4)) (k : Int))))))), (w2_4, .inl (cP, 8, .inr (.inr (.inr (.inr (fun k : Nat => (fun _ => none) (k : Int))))))), (w3_4, .inr (3, [.ref m1_4, .ref m2_4, .ref m3_4, .ref m4_4, .ref m5_4])), (w4_4, .inr (0, [.ref v1_4, .ref v2_4])), (w5_4, .inl (cI, 64, .inl (zA (fun _ => 0)))), (w6_4, .inl (cI, 64, .inl (zA (fun _ => 0)))), (m1_4, .inl (cI, 64, .inl (zA (fun _ => 0)))), (m2_4, .inl (cI, 64, .inl (zA (fun _ => 0)))), (m3_4, .inl (cI, 64, .inl (zA (fun _ => 0)))), (m4_4, .inl (cI, 64, .inl (zA (fun _ => 0)))), (m5_4, .inl (cI, 128, .inl (zA (fun _ => 0)))), (v1_4, .inl (cI, 64, .inl (zA (fun _ => 0)))), (v2_4, .inl (cI, 96, .inl (zA (fun _ => 0)))), (q_17, .inl (cJ, 1, .inr (.inl (fun _ => zL 0))))]) (M := zM cI (zMD0 q_8 q1_12 q2_12 q3_12 q4_12 q5_12 q6_12) (fun _ => 0) (fun _ => 0) (fun _ => 0) (fun _ => 0) (fun _ => 0) (fun _ => 0) 0 0) (ks := zKS) hP hD rfl zKS_all
  refine W.widen (k := 30 + 2 * 0) (n := 1500 + 70 * 0) (by decide) (by decide) ?_
  exact law_loop ⟨hx, hb, hml, hown, hts, hX, hbl, hL, hl9, hXT, hK⟩ hr hlocks (L + 1) 0 _ _ _ (by omega) ⟨_, _, _, _, _, _, _, _, _, _, _, _, _, ⟨by decide, fun r hr => by decide, fun r hr k h1 h2 => absurd h2 (by omega), fun i hi => by omega⟩, ⟨by decide, fun r hr => by decide, fun k h1 h2 => by decide, fun i hi => by omega⟩, fun r hr => rowAt_ext (fun k h1 h2 => absurd h2 (by omega)), hH, hS, lv_sub hl [0, 1, 2, 3, 4] rfl⟩ (by omega)
end LL
