section ZF
/-- worlds as families: cells by keys -/
abbrev zk : Type := Nat × Int
def zFP (D : va_G) (K : zk → Prop) (W : zk → Nat × va_E) (H : Heap) : Prop := ∀ k, K k → va_at D vwCl (W k) H
def zIn (K : zk → Prop) (W : zk → Nat × va_E) : Prop := ∀ i j, K i → K j → (W i).1 = (W j).1 → i = j
def zFr (K : zk → Prop) (W : zk → Nat × va_E) (sz : Nat) : Nat → Prop := fun q => (∃ k, K k ∧ q = (W k).1) ∨ sz ≤ q
theorem zf_at {ks : List zk} {W : zk → Nat × va_E} {wc : va_W} (e : ks.map W = wc) {j : Nat} {q : Nat × va_E} (hq : wc[j]? = some q) : ∃ k, ks[j]? = some k ∧ W k = q := by
  subst e
  rw [List.getElem?_map] at hq
  cases hj : ks[j]? with
  | none => rw [hj] at hq; cases hq
  | some k => rw [hj] at hq; exact ⟨k, rfl, Option.some.inj hq⟩
theorem zf_sub {D : va_G} {K : zk → Prop} {W : zk → Nat × va_E} {H : Heap} (h : zFP D K W H) (ks : List zk) (hk : ∀ k ∈ ks, K k) {wc : va_W} (e : ks.map W = wc) : va_P D vwCl wc H := fun j q hq => by
  obtain ⟨k, h1, h2⟩ := zf_at e hq
  rw [← h2]
  exact h k (hk k (List.mem_of_getElem? h1))
theorem zf_subD {K : zk → Prop} {W : zk → Nat × va_E} {A : Nat → Prop} (hI : zIn K W) (hA : ∀ k, K k → A (W k).1) (ks : List zk) (hk : ∀ k ∈ ks, K k) (hn : ks.Nodup) {wc : va_W} (e : ks.map W = wc) : va_D A wc := by
  refine ⟨fun i j p q hp hq hpq => ?_, fun j q hq => ?_⟩
  · obtain ⟨k1, h1, h2⟩ := zf_at e hp
    obtain ⟨k2, h3, h4⟩ := zf_at e hq
    have h5 := hI k1 k2 (hk _ (List.mem_of_getElem? h1)) (hk _ (List.mem_of_getElem? h3)) (by rw [h2, h4]; exact hpq)
    subst h5
    exact (List.getElem?_inj (List.getElem?_eq_some_iff.mp h1).1 hn).mp (h1.trans h3.symm)
  · obtain ⟨k, h1, h2⟩ := zf_at e hq
    rw [← h2]
    exact hA k (hk k (List.mem_of_getElem? h1))
theorem zf_dis {K : zk → Prop} {W : zk → Nat × va_E} (hI : zIn K W) (kc kr : List zk) (hc : ∀ k ∈ kc, K k) (hr : ∀ k ∈ kr, K k) (hd : ∀ k ∈ kr, k ∉ kc) {wc rc : va_W} (ec : kc.map W = wc) (er : kr.map W = rc) : ∀ (i j : Nat) (x y : Nat × va_E), wc[i]? = some x → rc[j]? = some y → x.1 ≠ y.1 := by
  intro i j x y hx hy he
  obtain ⟨k1, h1, h2⟩ := zf_at ec hx
  obtain ⟨k2, h3, h4⟩ := zf_at er hy
  have h5 := hI k1 k2 (hc _ (List.mem_of_getElem? h1)) (hr _ (List.mem_of_getElem? h3)) (by rw [h2, h4]; exact he)
  subst h5
  exact hd _ (List.mem_of_getElem? h3) (List.mem_of_getElem? h1)
/-- behind a call that changes the cells kc of a family -/
theorem zf_frame {D : va_G} {K K2 : zk → Prop} {W W2 : zk → Nat × va_E} {kc kn : List zk} {wc w1 : va_W} {H H1 : Heap} (hF : zFP D K W H) (hI : zIn K W) (hkc : ∀ k ∈ kc, K k) (ec : kc.map W = wc) (en : kn.map W2 = w1)
    (hK2 : ∀ k, K2 k → k ∈ kn ∨ (K k ∧ k ∉ kc ∧ W2 k = W k)) (hk : ∀ q : Nat, q < H.size → ¬ va_A wc H.size q → H1[q]? = H[q]?) (hP1 : va_P D vwCl w1 H1) (hD1 : va_D (va_A wc H.size) w1) :
    zFP D K2 W2 H1 ∧ zIn K2 W2 ∧ ∀ k, K2 k → zFr K W H.size (W2 k).1 := by
  have old : ∀ k, K k → k ∉ kc → (W k).1 < H.size ∧ ¬ va_A wc H.size (W k).1 := by
    intro k h1 h2
    have hl := (hF k h1).lt
    refine ⟨hl, fun h => ?_⟩
    rcases h with ⟨j, e, h⟩ | h
    · obtain ⟨k', h3, h4⟩ := zf_at ec h
      have h5 := hI k k' h1 (hkc _ (List.mem_of_getElem? h3)) (by rw [h4])
      subst h5
      exact h2 (List.mem_of_getElem? h3)
    · omega
  have new : ∀ k, k ∈ kn → ∃ j : Nat, w1[j]? = some (W2 k) ∧ kn[j]? = some k := by
    intro k h
    obtain ⟨j, hj⟩ := List.getElem?_of_mem h
    exact ⟨j, by rw [← en, List.getElem?_map, hj]; rfl, hj⟩
  refine ⟨fun k hk2 => ?_, fun i j hi hj hij => ?_, fun k hk2 => ?_⟩
  · rcases hK2 k hk2 with h | ⟨h1, h2, h3⟩
    · obtain ⟨j, h4, -⟩ := new k h
      exact hP1 j _ h4
    · rw [h3]
      exact (hF k h1).kept (hk _ (old k h1 h2).1 (old k h1 h2).2)
  · rcases hK2 i hi with h | ⟨h1, h2, h3⟩
    · obtain ⟨a, h4, h5⟩ := new i h
      rcases hK2 j hj with g | ⟨g1, g2, g3⟩
      · obtain ⟨b, g4, g5⟩ := new j g
        have h6 := hD1.1 a b _ _ h4 g4 hij
        subst h6
        exact Option.some.inj (h5.symm.trans g5)
      · have q := hD1.2 a _ h4
        rw [hij, g3] at q
        exact absurd q (old j g1 g2).2
    · rcases hK2 j hj with g | ⟨g1, g2, g3⟩
      · obtain ⟨b, g4, g5⟩ := new j g
        have q := hD1.2 b _ g4
        rw [← hij, h3] at q
        exact absurd q (old i h1 h2).2
      · rw [h3, g3] at hij
        exact hI i j h1 g1 hij
  · rcases hK2 k hk2 with h | ⟨h1, h2, h3⟩
    · obtain ⟨a, h4, h5⟩ := new k h
      rcases hD1.2 a _ h4 with ⟨b, e, g⟩ | g
      · obtain ⟨k', g1, g2⟩ := zf_at ec g
        exact Or.inl ⟨k', hkc _ (List.mem_of_getElem? g1), by rw [g2]⟩
      · exact Or.inr g
    · exact Or.inl ⟨k, h1, by rw [h3]⟩
/-- the strings of the class, as the pool has them -/
def zStr : List (Nat × String) := [(181, "there is no such row"), (184, "there is no such plan"), (186, "there is no such entry"), (188, "the row is longer than the plan"), (194, "an entry is out of range"), (196, "a row is empty"), (198, "the result could be longer than a row"), (203, "the plan has no such way"), (49, "the value is out of range"), (60, "the row is full"), (87, "no prime from 3 to 9973"), (89, "no length from 1 to 64 that divides the prime less 1"), (95, "there are 8 plans"), (155, "the block is not 1 to 32")]
/-- the constructors that a chain of exceptions calls -/
def zDcl : List MethodName := [Bundle.initS "java/lang/RuntimeException", Bundle.initS "java/lang/Exception", Bundle.initS Bundle.tN]
/-- what a method that may throw needs beside its words -/
def zXT (A0 : Nat → Prop) (U : State) : Prop := vx_Zq Bundle.tN "UNASSIGNED_STACK" Bundle.steD A0 U U.heap ∧ vx_Zq Bundle.tN "SUPPRESSED_SENTINEL" Bundle.listD A0 U U.heap ∧ (∀ kt ∈ zStr, ∃ a, vk_R RX5 kt.1 kt.2 a U) ∧ va_Nc "java/lang/IllegalArgumentException" "java/lang/IndexOutOfBoundsException" U ∧ va_Nc "java/lang/IllegalStateException" "java/lang/IndexOutOfBoundsException" U ∧ va_Nc "java/lang/IllegalStateException" "java/lang/IllegalArgumentException" U ∧ ∀ x ∈ zDcl, va_Nw (.declares x) U
theorem zXT.go {A A0 : Nat → Prop} {s U : State} {H : Heap} {locs : List Loc} (h : zXT A0 s) (hS : va_S A s.heap H locs) (hAA : ∀ q, A q → A0 q) (hU : U.heap = H) (hW : s.WarmedH U.vm) : zXT A0 U := by
  obtain ⟨h1, h2, h3, n1, n2, n3, hd⟩ := h
  refine ⟨?_, ?_, fun kt hkt => ?_, n1.moved hW.alike, n2.moved hW.alike, n3.moved hW.alike, fun x hx => (hd x hx).warmD hW⟩
  · rw [hU]
    exact vx_Zq.moved hW.alike (h1.kept (fun a g1 g2 => hS.2.1 a g1 (fun z => g2 (hAA a z))))
  · rw [hU]
    exact vx_Zq.moved hW.alike (h2.kept (fun a g1 g2 => hS.2.1 a g1 (fun z => g2 (hAA a z))))
  · obtain ⟨a, ha⟩ := h3 kt hkt
    exact ⟨a, ha.warm hW⟩
theorem zXT.call {A0 : Nat → Prop} {U : State} {g : JFrame} {mk : MethodId} {a : Array Value} (h : zXT A0 U) : zXT A0 (U.calling g mk a) := by
  obtain ⟨h1, h2, h3, n1, n2, n3, hd⟩ := h
  refine ⟨vx_Zq.moved (u := U) (U := U.calling g mk a) (Vm.Alike.refl U.vm) h1, vx_Zq.moved (u := U) (U := U.calling g mk a) (Vm.Alike.refl U.vm) h2, fun kt hkt => ?_, n1.moved (U := U.calling g mk a) (Vm.Alike.refl U.vm), n2.moved (U := U.calling g mk a) (Vm.Alike.refl U.vm), n3.moved (U := U.calling g mk a) (Vm.Alike.refl U.vm), fun x hx => (hd x hx).same rfl rfl⟩
  obtain ⟨b, hb⟩ := h3 kt hkt
  exact ⟨b, vk_R.same (u := U) rfl hb⟩
/-- a contract: it throws E, and nothing is changed -/
def zPreT (A0 : Nat → Prop) (D : va_G) (tys : List (ClassId × FieldType)) (rc : va_W) (sz : Nat) : State → Prop := fun U => U.heap.size = sz ∧ va_K D vwCl tys U ∧ va_P D vwCl rc U.heap ∧ zXT A0 U ∧ ∀ q : Nat, sz ≤ q → A0 q
theorem zPreT_blind {A0 : Nat → Prop} {D : va_G} {tys : List (ClassId × FieldType)} {rc : va_W} {sz : Nat} {av : List Value} : FrameBlind (va_Pc av (zPreT A0 D tys rc sz)) := fun a U g mk q => by
  obtain ⟨q0, q1, qK, qR, qX, qA⟩ := q
  exact ⟨q0, q1, va_K.moved (u := U) (U := U.calling g mk a) (Vm.Alike.refl U.vm) qK, qR, qX.call, qA⟩
def zXC (E : String) (sz : Nat) : String → State → State → Prop := fun E' st t => E' = E ∧ va_F (fun q => sz ≤ q) st t
def zNo : Array Value → State → Outcome → State → Prop := fun _ _ _ _ => False
def zTh (l : Launch) (y : MethodName) (wsy : List Cond) (rm : Room) (D : va_G) (tys : List (ClassId × FieldType)) (rc : va_W) (av : List Value) (E : String) : Prop :=
  ∀ (A0 : Nat → Prop) (sz : Nat), vx_Met l y wsy rm (va_Pc av (zPreT A0 D tys rc sz)) zNo (zXC E sz) 1 6 (fun q => sz ≤ q)
theorem z_startT {l : Launch} {y : MethodName} {wsy ws' : List Cond} {rm : Room} {D : va_G} {tys : List (ClassId × FieldType)} {rc : va_W} {av : List Value} {E : String} {cc : ByteArray} {maxL : Nat} {ret : Option FieldType} {own : String}
    (hy : plainName y.cls = true) (hw : wsy = Cond.code y cc maxL ret :: ws') (ho : y.cls = own) (hav : (lg_sl av).length ≤ maxL) (lv : List (Nat × Value)) (hlv : lv_args 0 av = lv)
    (body : ∀ (p : Program) (e : Env) (s : State) (m : MethodId) (below : List Frame) (meth : Method) (c : Code) (A0 : Nat → Prop) (H : Heap) (ls : Array Slot), zXT A0 s → (∀ q : Nat, s.heap.size ≤ q → A0 q) → (∀ x ∈ c.exceptionTable.toList, False) →
      p.tables.exec = Jvm.exec → c.code = cc → c.maxLocals = maxL → (∀ w ∈ wsy, w.before av.toArray s = true) → s.vm.findClass own = some m.cls → meth.locks = false → va_K D vwCl tys s → va_S (fun q : Nat => s.heap.size ≤ q) s.heap H [] → zRO D rc (fun q : Nat => s.heap.size ≤ q) s → va_P D vwCl rc H → lv_has ls maxL lv →
      W p l e rm s m av.toArray below meth c H [] 0 0 (vx_MQ below zNo (zXC E s.heap.size) av.toArray s 1 6 (fun q => s.heap.size ≤ q)) (F0 m 0 ls [])) : zTh l y wsy rm D tys rc av E := by
  intro A0 sz
  refine vx_ofW hy hw ?_
  intro p e s m args below meth c s₁ B hml hno hv
  obtain ⟨rfl, hsz, hK, hR, hX, hA⟩ := hv
  subst hsz
  subst ho
  subst hlv
  rw [lg_entry_eq]
  refine body p e s m below meth c A0 s.heap _ hX hA hno B.exec B.bytes hml (atoms_spec (ws := wsy) B.pre) (findClass_of_methodNamed B.named) B.notSynchronized hK va_S.rf (fun k q hk => ⟨hR k q hk, fun h => ?_⟩) hR (lv_entry av hav)
  have := (hR k q hk).lt
  omega
theorem z_found {E : String} {args : Array Value} {s : State} (h : (Cond.initialized E).before args s = true) : ∃ c, s.vm.findClass E = some c := by
  simp only [Cond.before, Cond.holds, Cond.value] at h
  cases hc : s.vm.findClass E with
  | none => simp [hc] at h
  | some c => exact ⟨c, rfl⟩
theorem z_cast {E : String} {args : Array Value} {s : State} (h : (Cond.initialized E).before args s = true) : (Cond.castable E E).before args s = true := by
  obtain ⟨c, hc⟩ := z_found h
  simp [Cond.before, Cond.holds, Cond.value, hc, va_asg]
section TH
variable {p : Program} {l : Launch} {e : Env} {R : Room} {s : State} {m : MethodId} {args : Array Value} {below : List Frame} {meth : Method} {c : Code} {H : Heap} {locs : List Loc}
variable {cc : ByteArray} {pc : Nat} {ls : Array Slot} {rest : List Value} {A0 : Nat → Prop}
theorem z_throw (hx : p.tables.exec = Jvm.exec) (hb : c.code = cc) (hl9 : l.stackTraces = false) {cls text : String} {ik is ic maxL : Nat} {lv : List (Nat × Value)} (hown : s.vm.findClass RX5 = some m.cls) (hml : c.maxLocals = maxL) (hlocks : meth.locks = false) (hX : zXT A0 s) (hA : ∀ q : Nat, s.heap.size ≤ q → A0 q) (hno : ∀ x ∈ c.exceptionTable.toList, False) (hS : va_S (fun q : Nat => s.heap.size ≤ q) s.heap H locs) (hl : lv_has ls maxL lv)
    (hcls : Bundle.fit cls = true) (hst : (is, text) ∈ zStr) (hk : (Cond.classLink RX5 ik cls).before args s = true) (hini : (Cond.initialized cls).before args s = true) (hat : ∀ w ∈ (vx_atS RX5 ic cls ["java/lang/RuntimeException", "java/lang/Exception"]).filter goodWord, w.before args s = true)
    (hbad : ∀ w ∈ (vx_atS RX5 ic cls ["java/lang/RuntimeException", "java/lang/Exception"]).filter (fun w => !goodWord w), w ∈ Cond.castable cls cls :: zDcl.map Cond.declares)
    (hgood : ∀ w ∈ Cond.classLink RX5 ik cls :: Cond.initialized cls :: vx_atS RX5 ic cls ["java/lang/RuntimeException", "java/lang/Exception"], vx_ot w = true)
    (d0 : decode cc pc = .ok (.new ik, 3)) (d3 : decode cc (pc + 3) = .ok (.dup, 1)) (d4 : decode cc (pc + 4) = .ok (.ldc is, 2)) (d6 : decode cc (pc + 6) = .ok (.invokespecial ic, 3)) (d9 : decode cc (pc + 9) = .ok (.athrow, 1))
    (hRf : 6 ≤ R.frames) (hRl : (rest.map fun v => v.category).sum + 82 ≤ R.locals) (hRc : 1 ≤ R.cells) (hRs : 6 ≤ R.slots) :
    W p l e R s m args below meth c H locs 0 0 (vx_MQ below zNo (zXC cls s.heap.size) args s 1 6 (fun q => s.heap.size ≤ q)) (F0 m pc ls rest) := by
  obtain ⟨sa, hsa⟩ := hX.2.2.1 _ hst
  refine vx_throwS (mc := 1) (ms := 6) (A := fun q : Nat => s.heap.size ≤ q) (names := ["java/lang/RuntimeException", "java/lang/Exception"]) hx hb hl9 hown hcls (by decide +kernel) hk hini hsa (vx_hat hat hbad (vx_c (z_cast hini) (fun w hw => by obtain ⟨x, h1, h2⟩ := List.mem_map.mp hw; rw [← h2]; exact va_any rfl (hX.2.2.2.2.2.2 x h1)))) hgood (hX.1.narrow hA) (hX.2.1.narrow hA) hS (hl.1.trans hml.symm) d0 d3 d4 d6 d9 (fun x hx9 => (hno x hx9).elim) (by show 2 + 3 < R.frames; omega) (by show _ + (13 * (2 + 1) + 43) ≤ R.locals; omega) (by omega) (by omega) hlocks ?_ hS.2.2 (by omega) (by omega)
  intro t _ h1 h2
  exact ⟨rfl, Nat.le_trans hS.1 h1, fun q h3 h4 => (h2 q (Nat.lt_of_lt_of_le h3 hS.1)).trans (hS.2.1 q h3 h4)⟩
/-- a call that throws, in a method without handlers -/
theorem z_tcall {st0 : List Value} {E : String} (hr : vx_Run p l e R s m args below meth c H locs 0 0 1 6 (F0 m pc ls st0) rest (fun _ _ _ => False) (zXC E H.size) (fun q => H.size ≤ q)) (hS : va_S (fun q : Nat => s.heap.size ≤ q) s.heap H locs) (hno : ∀ x ∈ c.exceptionTable.toList, False) (hlocks : meth.locks = false) :
    W p l e R s m args below meth c H locs 0 0 (vx_MQ below zNo (zXC E s.heap.size) args s 1 6 (fun q => s.heap.size ≤ q)) (F0 m pc ls st0) := by
  intro T hT X
  rcases hr T hT X with ⟨v, st₀, t, T', L, h0, X', hL, e1, e2, hF, st⟩ | ⟨q, st₀, t, T', L, E', ce, h0, X', hL, e1, e2, ⟨hE, hF⟩, hce, hcv, hcl, st⟩
  · exact hF.elim
  · subst hE
    obtain ⟨k1, k2, k3⟩ := vx_keep (A0 := fun q : Nat => s.heap.size ≤ q) (A1 := fun q : Nat => H.size ≤ q) (free := fun q : Nat => H.size ≤ q) h0 e1 hS (fun q _ h2 => Nat.le_trans hS.1 h2) (fun q h => Nat.le_trans hS.1 h) hL hF
    have hW := vx_out (H := T'.heap) (q := q) (p := p) (l := l) (e := e) (R := R) (below := below) (Qc := zNo) (XC := zXC E' s.heap.size) (args := args) (free := fun q : Nat => s.heap.size ≤ q) (cells := 0 + 1) (slots := 0 + 6) (mc := 1) (ms := 6) (pc := pc) (ls := ls) (rest := rest) (m := m) (fun x hx9 => (hno x hx9).elim) hlocks (by rw [e1]; exact hce) hcv hcl (fun t ht _ => ⟨rfl, by rw [ht]; exact k3.1, fun q h3 h4 => by rw [ht]; exact k3.2.1 q h3 h4⟩) k3.2.2 (Nat.le_refl _) (Nat.le_refl _)
    obtain ⟨t2, a1, b1⟩ := hW T' rfl X'
    exact ⟨t2, st.trans a1, b1⟩
theorem z_preTS {D : va_G} {tys' : List (ClassId × FieldType)} {rc : va_W} {av : List Value} (hX : zXT A0 s) (hA : ∀ q : Nat, s.heap.size ≤ q → A0 q) (hS : va_S (fun q : Nat => s.heap.size ≤ q) s.heap H locs) (hRc : va_P D vwCl rc H) (hK : va_K D vwCl tys' s) : PreS s H (va_Pc av (zPreT A0 D tys' rc H.size)) av :=
  ⟨zPreT_blind, fun U hU hW => ⟨rfl, by rw [hU], va_K.moved hW.alike hK, by rw [hU]; exact hRc, hX.go hS hA hU hW, fun q h => hA q (Nat.le_trans hS.1 h)⟩⟩
theorem z_preTV {D : va_G} {tys' : List (ClassId × FieldType)} {rc : va_W} {C : String} {b : Nat} {As : List Value} (hrv : ∃ cell : Cell, H[b]? = some cell ∧ cell.vm.isStatics = false ∧ s.vm.findClass C = some cell.cls) (hX : zXT A0 s) (hA : ∀ q : Nat, s.heap.size ≤ q → A0 q) (hS : va_S (fun q : Nat => s.heap.size ≤ q) s.heap H locs) (hRc : va_P D vwCl rc H) (hK : va_K D vwCl tys' s) : PreV s H C b (va_Pc (.ref b :: As) (zPreT A0 D tys' rc H.size)) As :=
  ⟨zPreT_blind, hrv, fun U hU hW => ⟨rfl, by rw [hU], va_K.moved hW.alike hK, by rw [hU]; exact hRc, hX.go hS hA hU hW, fun q h => hA q (Nat.le_trans hS.1 h)⟩⟩
end TH
end ZF
set_option maxRecDepth 20000 in
theorem z_bad1 : ∀ w ∈ (vx_atS RX5 183 "java/lang/IndexOutOfBoundsException" ["java/lang/RuntimeException", "java/lang/Exception"]).filter (fun w => !goodWord w), w ∈ Cond.castable "java/lang/IndexOutOfBoundsException" "java/lang/IndexOutOfBoundsException" :: zDcl.map Cond.declares := by decide +kernel
set_option maxRecDepth 20000 in
theorem z_bad2 : ∀ w ∈ (vx_atS RX5 51 "java/lang/IllegalArgumentException" ["java/lang/RuntimeException", "java/lang/Exception"]).filter (fun w => !goodWord w), w ∈ Cond.castable "java/lang/IllegalArgumentException" "java/lang/IllegalArgumentException" :: zDcl.map Cond.declares := by decide +kernel
set_option maxRecDepth 20000 in
theorem z_bad3 : ∀ w ∈ (vx_atS RX5 62 "java/lang/IllegalStateException" ["java/lang/RuntimeException", "java/lang/Exception"]).filter (fun w => !goodWord w), w ∈ Cond.castable "java/lang/IllegalStateException" "java/lang/IllegalStateException" :: zDcl.map Cond.declares := by decide +kernel
set_option maxRecDepth 20000 in
theorem z_good1 : ∀ w ∈ Cond.classLink RX5 179 "java/lang/IndexOutOfBoundsException" :: Cond.initialized "java/lang/IndexOutOfBoundsException" :: vx_atS RX5 183 "java/lang/IndexOutOfBoundsException" ["java/lang/RuntimeException", "java/lang/Exception"], vx_ot w = true := by decide +kernel
set_option maxRecDepth 20000 in
theorem z_good2 : ∀ w ∈ Cond.classLink RX5 47 "java/lang/IllegalArgumentException" :: Cond.initialized "java/lang/IllegalArgumentException" :: vx_atS RX5 51 "java/lang/IllegalArgumentException" ["java/lang/RuntimeException", "java/lang/Exception"], vx_ot w = true := by decide +kernel
set_option maxRecDepth 20000 in
theorem z_good3 : ∀ w ∈ Cond.classLink RX5 58 "java/lang/IllegalStateException" :: Cond.initialized "java/lang/IllegalStateException" :: vx_atS RX5 62 "java/lang/IllegalStateException" ["java/lang/RuntimeException", "java/lang/Exception"], vx_ot w = true := by decide +kernel
