section ZH
section ROWS
variable {p : Program} {l : Launch} {e : Env} {R : Room} {s : State} {m : MethodId} {args : Array Value} {below : List Frame} {meth : Method} {c : Code} {H H0 : Heap} {locs : List Loc} {cells slots : Nat} {Q : State → Prop}
variable {cc : ByteArray} {pc : Nat} {ls : Array Slot} {rest : List Value} {D : va_G} {A : Nat → Prop} {a : Nat} {tys : List (ClassId × FieldType)} {ws rs : va_W}
theorem z_in {i : Int} {n : Nat} (hi : 0 ≤ i ∧ i < (n : Int)) (hn : n ≤ 2147483647) : vp_in (zI i) n := by
  rw [vp_in_iff, zI_t (by omega)]
  exact hi
theorem z_cl {i : Int} (hi : 0 ≤ i ∧ i ≤ 2147483647) : (zI i).toNatClampNeg = i.toNat := by
  show (zI i).toInt.toNat = _
  rw [zI_t (by omega)]
theorem zA_at (g : Int → Int) {i : Int} (hi : 0 ≤ i ∧ i ≤ 2147483647) : zA g (zI i).toNatClampNeg = zI (g i) := by
  rw [z_cl hi]
  show zI (g ((i.toNat : Nat) : Int)) = _
  rw [Int.toNat_of_nonneg hi.1]
theorem zA_upd (g : Int → Int) {i v : Int} (hi : 0 ≤ i ∧ i ≤ 2147483647) : upd (zA g) (zI i).toNatClampNeg (zI v) = zA (zU g i v) := by
  rw [z_cl hi]
  funext k
  show (if k = i.toNat then zI v else zI (g k)) = zI (if (k : Int) = i then v else g k)
  by_cases h : k = i.toNat
  · rw [if_pos h, if_pos (by omega)]
  · rw [if_neg h, if_neg (by omega)]
theorem z_iald (hx : p.tables.exec = Jvm.exec) (hb : c.code = cc) (hK : va_K D vwCl tys s) (hP : va_P D vwCl ws H) (q0 t0 : Nat) {cA : ClassId} {n : Nat} {g : Int → Int} (ha : ws[q0]? = some (a, .inl (cA, n, .inl (zA g)))) (ht : tys[t0]? = some (cA, .int)) (hn : Nat.ble n 2147483647 = true) {i : Int} (hi : 0 ≤ i ∧ i < (n : Int)) (hdg : decode cc pc = .ok (.iaload, 1))
    (kk : W p l e R s m args below meth c H locs cells slots Q (F0 m (pc + 1) ls (.int (zI (g i)) :: rest))) : W p l e R s m args below meth c H locs cells slots Q (F0 m pc ls (.int (zI i) :: .ref a :: rest)) := by
  have hn := Nat.le_of_ble_eq_true hn
  exact va_iald hx hb hK hP q0 t0 ha ht (z_in hi hn) hdg (by rw [zA_at g (by omega)]; exact kk)
theorem z_iast (hx : p.tables.exec = Jvm.exec) (hb : c.code = cc) (hK : va_K D vwCl tys s) (hP : va_P D vwCl ws H) (hD : va_D A ws) (hS : va_S A H0 H locs) (q0 t0 : Nat) {cA : ClassId} {n : Nat} {g : Int → Int} (ha : ws[q0]? = some (a, .inl (cA, n, .inl (zA g)))) (ht : tys[t0]? = some (cA, .int)) (hn : Nat.ble n 2147483647 = true) {i v : Int} (hi : 0 ≤ i ∧ i < (n : Int)) (hdg : decode cc pc = .ok (.iastore, 1))
    (kk : ∀ (H1 : Heap) (locs1 : List Loc), va_P D vwCl (ws.set q0 (a, .inl (cA, n, .inl (zA (zU g i v))))) H1 → va_D A (ws.set q0 (a, .inl (cA, n, .inl (zA (zU g i v))))) → va_S A H0 H1 locs1 → W p l e R s m args below meth c H1 locs1 cells slots Q (F0 m (pc + 1) ls rest)) : W p l e R s m args below meth c H locs cells slots Q (F0 m pc ls (.int (zI v) :: .int (zI i) :: .ref a :: rest)) := by
  have hn := Nat.le_of_ble_eq_true hn
  refine va_iast hx hb hK hP hD hS q0 t0 ha ht (z_in hi hn) hdg ?_
  rw [zA_upd g (by omega)]
  exact kk
/-- rows of references -/
theorem z_aald (hx : p.tables.exec = Jvm.exec) (hb : c.code = cc) (hK : va_K D vwCl tys s) (hP : va_P D vwCl ws H) (q0 t0 : Nat) {cA : ClassId} {C : String} {n : Nat} {g : Int → Option Nat} (ha : ws[q0]? = some (a, .inl (cA, n, .inr (.inr (.inr (.inr (fun k : Nat => g (k : Int)))))))) (ht : tys[t0]? = some (cA, .object C)) (hn : Nat.ble n 2147483647 = true) {i : Int} (hi : 0 ≤ i ∧ i < (n : Int)) {v : Value} (hv : va_rf (g i) = v) (hdg : decode cc pc = .ok (.aaload, 1))
    (kk : W p l e R s m args below meth c H locs cells slots Q (F0 m (pc + 1) ls (v :: rest))) : W p l e R s m args below meth c H locs cells slots Q (F0 m pc ls (.int (zI i) :: .ref a :: rest)) := by
  have hn := Nat.le_of_ble_eq_true hn
  refine va_aldq hx hb hK hP q0 t0 ha ht (z_in hi hn) hdg ?_
  have e1 : g (((zI i).toNatClampNeg : Nat) : Int) = g i := by
    rw [z_cl (by omega), Int.toNat_of_nonneg hi.1]
  show W p l e R s m args below meth c H locs cells slots Q (F0 m (pc + 1) ls (va_rf (g (((zI i).toNatClampNeg : Nat) : Int)) :: rest))
  rw [e1, hv]
  exact kk
/-- a loop, by a measure that falls -/
theorem z_loop {σ : Type} (μ : σ → Nat) (I : σ → Heap → List Loc → Array Slot → Prop) (x0 : σ) (h0 : I x0 H locs ls)
    (step : ∀ (x : σ) (H : Heap) (locs : List Loc) (ls : Array Slot), I x H locs ls → (∀ (y : σ) (H' : Heap) (locs' : List Loc) (ls' : Array Slot), I y H' locs' ls' → μ y < μ x → W p l e R s m args below meth c H' locs' cells slots Q (F0 m pc ls' [])) → W p l e R s m args below meth c H locs cells slots Q (F0 m pc ls [])) : W p l e R s m args below meth c H locs cells slots Q (F0 m pc ls []) := by
  have key : ∀ (n : Nat) (x : σ) (H : Heap) (locs : List Loc) (ls : Array Slot), μ x < n → I x H locs ls → W p l e R s m args below meth c H locs cells slots Q (F0 m pc ls []) := by
    intro n
    induction n with
    | zero => intro x H locs ls h; omega
    | succ n ih =>
      intro x H locs ls hm hI
      exact step x H locs ls hI (fun y H' locs' ls' hy hlt => ih y H' locs' ls' (by omega) hy)
  exact key (μ x0 + 1) x0 H locs ls (by omega) h0
end ROWS
/-- contracts: a world wc that may change, cells rc that are read alone -/
def zPre (D : va_G) (tys : List (ClassId × FieldType)) (wc rc : va_W) (sz : Nat) : State → Prop := fun U => U.heap.size = sz ∧ va_P D vwCl wc U.heap ∧ va_K D vwCl tys U ∧ va_D (fun _ => True) wc ∧ va_P D vwCl rc U.heap ∧ ∀ (i j : Nat) (x y : Nat × va_E), wc[i]? = some x → rc[j]? = some y → x.1 ≠ y.1
theorem zPre_blind {D : va_G} {tys : List (ClassId × FieldType)} {wc rc : va_W} {sz : Nat} {av : List Value} : FrameBlind (va_Pc av (zPre D tys wc rc sz)) := fun a U g mk q => by
  obtain ⟨q0, q1, qP, qK, qD, qR, qX⟩ := q
  exact ⟨q0, q1, qP, va_K.moved (u := U) (U := U.calling g mk a) (Vm.Alike.refl U.vm) qK, qD, qR, qX⟩
def zQ {S : Type} (D : va_G) (post : S → Prop) (v : S → Option Value) (w1 : S → va_W) (A : Nat → Prop) : Array Value → State → Outcome → State → Prop := fun _ st oc t => (∃ u : S, oc = .returned (v u) ∧ post u ∧ va_P D vwCl (w1 u) t.heap ∧ va_D A (w1 u)) ∧ va_F A st t
def zC (l : Launch) (y : MethodName) (wsy : List Cond) (rm : Room) (D : va_G) (tys : List (ClassId × FieldType)) (wc rc : va_W) (av : List Value) {S : Type} (post : S → Prop) (v : S → Option Value) (w1 : S → va_W) : Prop :=
  ∀ sz : Nat, Met l y wsy rm (va_Pc av (zPre D tys wc rc sz)) (zQ D post v w1 (va_A wc sz)) rm.cells rm.slots (va_A wc sz)
/-- nothing is changed, nothing made, the answer is v -/
abbrev zF (l : Launch) (y : MethodName) (wsy : List Cond) (rm : Room) (D : va_G) (tys : List (ClassId × FieldType)) (rc : va_W) (av : List Value) (v : Option Value) : Prop := zC l y wsy rm D tys [] rc av (S := Unit) (fun _ => True) (fun _ => v) (fun _ => [])
def zRO (D : va_G) (rc : va_W) (A : Nat → Prop) (s : State) : Prop := ∀ (k : Nat) (q : Nat × va_E), rc[k]? = some q → va_at D vwCl q s.heap ∧ ¬ A q.1
theorem zRO.at {D : va_G} {rc : va_W} {A : Nat → Prop} {s : State} {H : Heap} {locs : List Loc} (h : zRO D rc A s) (hS : va_S A s.heap H locs) : va_P D vwCl rc H := fun k q hk => (h k q hk).1.kept (hS.2.1 q.1 ((h k q hk).1.lt) (h k q hk).2)
theorem z_nilP {D : va_G} {H : Heap} : va_P D vwCl [] H := fun k q h => by simp at h
theorem z_nilD {A : Nat → Prop} : va_D A [] := ⟨fun i j p q h => by simp at h, fun k q h => by simp at h⟩
theorem z_start {l : Launch} {y : MethodName} {wsy ws' : List Cond} {rm : Room} {D : va_G} {tys : List (ClassId × FieldType)} {wc rc : va_W} {av : List Value} {S : Type} {post : S → Prop} {v : S → Option Value} {w1 : S → va_W} {cc : ByteArray} {maxL : Nat} {ret : Option FieldType} {own : String}
    (hy : plainName y.cls = true) (hw : wsy = Cond.code y cc maxL ret :: ws') (ho : y.cls = own) (hav : (lg_sl av).length ≤ maxL) (lv : List (Nat × Value)) (hlv : lv_args 0 av = lv)
    (body : ∀ (p : Program) (e : Env) (s : State) (m : MethodId) (below : List Frame) (meth : Method) (c : Code) (A : Nat → Prop) (H : Heap) (ls : Array Slot),
      p.tables.exec = Jvm.exec → c.code = cc → meth.sig.returnType = ret → c.maxLocals = maxL → (∀ w ∈ wsy, w.before av.toArray s = true) → s.vm.findClass own = some m.cls → meth.locks = false → meth.name = y.name → va_K D vwCl tys s → (∀ q : Nat, s.heap.size ≤ q → A q) → va_P D vwCl wc H → va_D A wc → va_S A s.heap H [] → zRO D rc A s → va_P D vwCl rc H → lv_has ls maxL lv →
      W p l e rm s m av.toArray below meth c H [] 0 0 (MQ below (zQ D post v w1 A) av.toArray s rm.cells rm.slots A) (F0 m 0 ls [])) : zC l y wsy rm D tys wc rc av post v w1 := by
  intro sz
  refine Met.ofW hy hw ?_
  intro p e s m args below meth c s₁ B hml hv
  obtain ⟨rfl, hsz, hP, hK, hD0, hR, hX⟩ := hv
  subst hsz
  subst ho
  subst hlv
  rw [lg_entry_eq]
  refine body p e s m below meth c (va_A wc s.heap.size) s.heap _ B.exec B.bytes B.returns hml (atoms_spec (ws := wsy) B.pre) (findClass_of_methodNamed B.named) B.notSynchronized (name_of_methodNamed B.named B.method).1 hK (fun q h => Or.inr h) hP (hD0.self) va_S.rf (fun k q hk => ⟨hR k q hk, fun h => ?_⟩) hR (lv_entry av hav)
  rcases h with ⟨k2, e2, h2⟩ | h2
  · exact hX k2 k (q.1, e2) q h2 hk rfl
  · have := (hR k q hk).lt
    omega
section ENDS
variable {p : Program} {l : Launch} {e : Env} {R : Room} {s : State} {m : MethodId} {args : Array Value} {below : List Frame} {meth : Method} {c : Code} {H : Heap} {locs : List Loc} {cells slots : Nat}
variable {cc : ByteArray} {pc : Nat} {ls : Array Slot} {rest : List Value} {D : va_G} {A : Nat → Prop} {S : Type} {post : S → Prop} {v : S → Option Value} {w1 : S → va_W} {rm : Room}
theorem z_iret (hx : p.tables.exec = Jvm.exec) (hb : c.code = cc) {ty : FieldType} (hr : meth.sig.returnType = some ty) (hlocks : meth.locks = false) {x : Int32} (hn : narrow ty (.int x) = .int x) (u : S) (hv : v u = some (.int x)) (hp : post u) (hP : va_P D vwCl (w1 u) H) (hD : va_D A (w1 u)) (hS : va_S A s.heap H locs) (hdg : decode cc pc = .ok (.ireturn, 1)) :
    W p l e R s m args below meth c H locs cells slots (MQ below (zQ D post v w1 A) args s cells slots A) (F0 m pc ls [.int x]) :=
  W.zret hx hb hr hn (fun t ht _ => ⟨⟨u, by rw [hv], hp, by rw [ht]; exact hP, hD⟩, hS.F ht⟩) hS.2.2 hdg hlocks
theorem z_lret (hx : p.tables.exec = Jvm.exec) (hb : c.code = cc) (hr : meth.sig.returnType = some .long) (hlocks : meth.locks = false) {x : Int64} (u : S) (hv : v u = some (.long x)) (hp : post u) (hP : va_P D vwCl (w1 u) H) (hD : va_D A (w1 u)) (hS : va_S A s.heap H locs) (hdg : decode cc pc = .ok (.lreturn, 1)) :
    W p l e R s m args below meth c H locs cells slots (MQ below (zQ D post v w1 A) args s cells slots A) (F0 m pc ls [.long x]) :=
  W.lret hx hb hr (fun t ht _ => ⟨⟨u, by rw [hv], hp, by rw [ht]; exact hP, hD⟩, hS.F ht⟩) hS.2.2 hdg hlocks
theorem z_vret (hx : p.tables.exec = Jvm.exec) (hb : c.code = cc) (hr : meth.sig.returnType = none) (hlocks : meth.locks = false) (u : S) (hv : v u = none) (hp : post u) (hP : va_P D vwCl (w1 u) H) (hD : va_D A (w1 u)) (hS : va_S A s.heap H locs) (hdg : decode cc pc = .ok (.return_, 1)) :
    W p l e R s m args below meth c H locs cells slots (MQ below (zQ D post v w1 A) args s cells slots A) (F0 m pc ls []) :=
  W.vret hx hb hr (fun t ht _ => ⟨⟨u, by rw [hv], hp, by rw [ht]; exact hP, hD⟩, hS.F ht⟩) hS.2.2 hdg hlocks
theorem z_aret (hx : p.tables.exec = Jvm.exec) (hb : c.code = cc) {rt : FieldType} (hr : meth.sig.returnType = some rt) (hrt : (∃ n, rt = .object n) ∨ ∃ t, rt = .array t) (hlocks : meth.locks = false) {x : Value} (hxv : x = .null ∨ ∃ a, x = .ref a) (u : S) (hv : v u = some x) (hp : post u) (hP : va_P D vwCl (w1 u) H) (hD : va_D A (w1 u)) (hS : va_S A s.heap H locs) (hdg : decode cc pc = .ok (.areturn, 1)) :
    W p l e R s m args below meth c H locs cells slots (MQ below (zQ D post v w1 A) args s cells slots A) (F0 m pc ls [x]) :=
  W.aret hx hb hr hrt hxv (fun t ht _ => ⟨⟨u, by rw [hv], hp, by rw [ht]; exact hP, hD⟩, hS.F ht⟩) hS.2.2 hdg hlocks
end ENDS
section CALLS
variable {p : Program} {l : Launch} {e : Env} {R : Room} {s : State} {m : MethodId} {args : Array Value} {below : List Frame} {meth : Method} {c : Code} {H : Heap} {locs : List Loc} {cells slots mc ms : Nat} {Q : State → Prop}
variable {pc : Nat} {ls : Array Slot} {rest st0 av : List Value} {D : va_G} {A : Nat → Prop} {tys tys' : List (ClassId × FieldType)} {ws rs wc rc wr : va_W}
/-- places of a callee's cells among the caller's: isC in ws, isR in ws ++ rs -/
theorem z_dis (hD : va_D A ws) (hR0 : zRO D rs A s) {isC isR : List Nat} (hC : isC.map (fun i => ws[i]?) = wc.map some) (hR : isR.filterMap (fun i => (ws ++ rs)[i]?) = rc) (hn : ∀ i ∈ isR, i ∉ isC) :
    ∀ (i j : Nat) (x y : Nat × va_E), wc[i]? = some x → rc[j]? = some y → x.1 ≠ y.1 := by
  intro i j x y hx hy he
  have h1 : (isC.map (fun i => ws[i]?))[i]? = some (some x) := by rw [hC, List.getElem?_map, hx]; rfl
  rw [List.getElem?_map] at h1
  cases hi : isC[i]? with
  | none => rw [hi] at h1; cases h1
  | some i' =>
    rw [hi] at h1
    have h2 : ws[i']? = some x := Option.some.inj h1
    rw [← hR] at hy
    obtain ⟨j', hj', hj2⟩ := List.mem_filterMap.mp (List.mem_of_getElem? hy)
    rcases Nat.lt_or_ge j' ws.length with q | q
    · rw [List.getElem?_append_left q] at hj2
      have := hD.1 i' j' x y h2 hj2 he
      subst this
      exact hn i' hj' (List.mem_of_getElem? hi)
    · rw [List.getElem?_append_right q] at hj2
      have h3 := (hR0 _ y hj2).2
      rw [← he] at h3
      exact h3 (hD.2 i' x h2)
theorem z_subR (hP : va_P D vwCl ws H) (hRr : va_P D vwCl rs H) {isR : List Nat} (hR : isR.filterMap (fun i => (ws ++ rs)[i]?) = rc) : va_P D vwCl rc H := (hP.app hRr).sub isR hR
theorem z_preS (hP : va_P D vwCl wc H) (hD : va_D A wc) (hRc : va_P D vwCl rc H) (hX : ∀ (i j : Nat) (x y : Nat × va_E), wc[i]? = some x → rc[j]? = some y → x.1 ≠ y.1) (hK : va_K D vwCl tys' s) : PreS s H (va_Pc av (zPre D tys' wc rc H.size)) av :=
  ⟨zPre_blind, fun U hU hW => ⟨rfl, by rw [hU], by rw [hU]; exact hP, va_K.moved hW.alike hK, hD.weaken (fun _ _ _ _ => trivial), by rw [hU]; exact hRc, hX⟩⟩
theorem z_preV {C : String} {b : Nat} {As : List Value} (hrv : ∃ cell : Cell, H[b]? = some cell ∧ cell.vm.isStatics = false ∧ s.vm.findClass C = some cell.cls) (hP : va_P D vwCl wc H) (hD : va_D A wc) (hRc : va_P D vwCl rc H) (hX : ∀ (i j : Nat) (x y : Nat × va_E), wc[i]? = some x → rc[j]? = some y → x.1 ≠ y.1) (hK : va_K D vwCl tys' s) : PreV s H C b (va_Pc (.ref b :: As) (zPre D tys' wc rc H.size)) As :=
  ⟨zPre_blind, hrv, fun U hU hW => ⟨rfl, by rw [hU], by rw [hU]; exact hP, va_K.moved hW.alike hK, hD.weaken (fun _ _ _ _ => trivial), by rw [hU]; exact hRc, hX⟩⟩
theorem z_noX {rc : va_W} : ∀ (i j : Nat) (x y : Nat × va_E), ([] : va_W)[i]? = some x → rc[j]? = some y → x.1 ≠ y.1 := fun i j x y h => by simp at h
/-- behind a call that changes nothing -/
theorem z_ro {vo : Option Value} (hr : va_Run p l e R s m args below meth c H locs cells slots mc ms (F0 m pc ls st0) rest (zQ D (S := Unit) (fun _ => True) (fun _ => vo) (fun _ => []) (va_A [] H.size) av.toArray) (va_A [] H.size)) (hP : va_P D vwCl ws H) (hS : va_S A s.heap H locs) (hA : ∀ q, s.heap.size ≤ q → A q) {cells' slots' : Nat} (hc : cells + mc = cells') (hs : slots + ms = slots')
    (kk : ∀ (H1 : Heap) (locs1 : List Loc), va_P D vwCl ws H1 → va_S A s.heap H1 locs1 → W p l e R s m args below meth c H1 locs1 cells' slots' Q (F0 m (pc + 3) ls (vo.toList ++ rest))) : W p l e R s m args below meth c H locs cells slots Q (F0 m pc ls st0) := by
  subst hc
  subst hs
  intro T hT X
  obtain ⟨v, st₀, t, T', L, h0, X', hL, e1, e2, ⟨⟨u, hv, -, -, -⟩, hz, hk⟩, st⟩ := hr T hT X
  cases hv
  rw [h0] at hz hk
  have hkeep : ∀ q : Nat, q < H.size → T'.heap[q]? = H[q]? := fun q h1 => by
    rw [e1]
    refine hk q h1 (fun h => ?_)
    rcases h with ⟨k2, e3, h2⟩ | h2
    · simp at h2
    · omega
  have hAf : ∀ q, va_A [] H.size q → A q := fun q h => by
    rcases h with ⟨k2, e3, h2⟩ | h2
    · simp at h2
    · exact hA q (Nat.le_trans hS.1 h2)
  obtain ⟨t2, a1, b1⟩ := kk T'.heap (locs ++ L) (hP.kept (fun k q h => hkeep q.1 ((hP k q h).lt))) ⟨Nat.le_trans hS.1 (by rw [e1]; exact hz), fun q h1 h2 => by rw [hkeep q (Nat.lt_of_lt_of_le h1 hS.1)]; exact hS.2.1 q h1 h2, fun q hq => by
      rcases List.mem_append.mp hq with h | h
      · exact hS.2.2 q h
      · exact hAf _ (hL q h)⟩ T' rfl X'
  exact ⟨t2, st t2 a1, b1⟩
/-- behind a call that changes the cells wc (places isC) -/
theorem z_mu {S : Type} {post : S → Prop} {vo : S → Option Value} {w1 : S → va_W} (hr : va_Run p l e R s m args below meth c H locs cells slots mc ms (F0 m pc ls st0) rest (zQ D post vo w1 (va_A wc H.size) av.toArray) (va_A wc H.size)) (hP : va_P D vwCl ws H) (hD : va_D A ws) (hS : va_S A s.heap H locs) (hA : ∀ q, s.heap.size ≤ q → A q) (isC isQ : List Nat) (hC : isC.map (fun i => ws[i]?) = wc.map some) (hQ : isQ.map (fun i => ws[i]?) = wr.map some) (hn : va_nd isQ = true) (hdis : ∀ i ∈ isQ, i ∉ isC) {cells' slots' : Nat} (hc : cells + mc = cells') (hs : slots + ms = slots')
    (kk : ∀ (u : S) (H1 : Heap) (locs1 : List Loc), post u → va_P D vwCl (wr ++ w1 u) H1 → va_D A (wr ++ w1 u) → va_S A s.heap H1 locs1 → W p l e R s m args below meth c H1 locs1 cells' slots' Q (F0 m (pc + 3) ls ((vo u).toList ++ rest))) : W p l e R s m args below meth c H locs cells slots Q (F0 m pc ls st0) := by
  subst hc
  subst hs
  intro T hT X
  obtain ⟨v, st₀, t, T', L, h0, X', hL, e1, e2, ⟨⟨u, hv, hp, hP1, hD1⟩, hz, hk⟩, st⟩ := hr T hT X
  cases hv
  rw [h0] at hz hk
  have hF := va_free hD hS hA isC hC
  obtain ⟨hP2, hD2⟩ := va_join hP hD isC isQ hC hQ hn hdis hk hF hP1 hD1
  obtain ⟨t2, a1, b1⟩ := kk u T'.heap (locs ++ L) hp (by rw [e1]; exact hP2) hD2 ⟨Nat.le_trans hS.1 (by rw [e1]; exact hz), fun q h1 h2 => by rw [e1, hk q (Nat.lt_of_lt_of_le h1 hS.1) (fun z => h2 (hF q z))]; exact hS.2.1 q h1 h2, fun q hq => by
      rcases List.mem_append.mp hq with h | h
      · exact hS.2.2 q h
      · exact hF _ (hL q h)⟩ T' rfl X'
  exact ⟨t2, st t2 a1, b1⟩
end CALLS
section MORE
variable {p : Program} {l : Launch} {e : Env} {R : Room} {s : State} {m : MethodId} {args : Array Value} {below : List Frame} {meth : Method} {c : Code} {H : Heap} {locs : List Loc} {cells slots : Nat} {Q : State → Prop}
variable {cc : ByteArray} {pc : Nat} {ls : Array Slot} {rest : List Value}
/-- a truth value as an int -/
def zB (P : Prop) [Decidable P] : Int := if P then 1 else 0
theorem zB_t {P : Prop} [Decidable P] (h : P) : zB P = 1 := if_pos h
theorem zB_f {P : Prop} [Decidable P] (h : ¬ P) : zB P = 0 := if_neg h
theorem zB_r {P : Prop} [Decidable P] : 0 ≤ zB P ∧ zB P ≤ 1 := by unfold zB; split <;> omega
theorem z_nb {P : Prop} [Decidable P] : narrow .boolean (.int (zI (zB P))) = .int (zI (zB P)) := by unfold zB; split <;> rfl
theorem z_ifB_eq (hx : p.tables.exec = Jvm.exec) (hb : c.code = cc) {P : Prop} [Decidable P] {off : Int} {tgt : Nat} (hdg : decode cc pc = .ok (.ifCond .eq off, 3)) (ht : (pc : Int) + off = (tgt : Int)) (kt : ¬ P → W p l e R s m args below meth c H locs cells slots Q (F0 m tgt ls rest)) (kf : P → W p l e R s m args below meth c H locs cells slots Q (F0 m (pc + 3) ls rest)) : W p l e R s m args below meth c H locs cells slots Q (F0 m pc ls (.int (zI (zB P)) :: rest)) :=
  z_if_eq hx hb hdg ht (by have := zB_r (P := P); omega) (fun h => kt (fun q => by rw [zB_t q] at h; omega)) (fun h => kf (Decidable.byContradiction (fun q => by rw [zB_f q] at h; omega)))
theorem z_ifB_ne (hx : p.tables.exec = Jvm.exec) (hb : c.code = cc) {P : Prop} [Decidable P] {off : Int} {tgt : Nat} (hdg : decode cc pc = .ok (.ifCond .ne off, 3)) (ht : (pc : Int) + off = (tgt : Int)) (kt : P → W p l e R s m args below meth c H locs cells slots Q (F0 m tgt ls rest)) (kf : ¬ P → W p l e R s m args below meth c H locs cells slots Q (F0 m (pc + 3) ls rest)) : W p l e R s m args below meth c H locs cells slots Q (F0 m pc ls (.int (zI (zB P)) :: rest)) :=
  z_if_ne hx hb hdg ht (by have := zB_r (P := P); omega) (fun h => kt (Decidable.byContradiction (fun q => by rw [zB_f q] at h; omega))) (fun h => kf (fun q => by rw [zB_t q] at h; omega))
theorem z_mmax (hx : p.tables.exec = Jvm.exec) (hb : c.code = cc) (hml : c.maxLocals = ls.size) {own : String} {index : Nat} (hown : s.vm.findClass own = some m.cls) (hlink : (Cond.methodLink own index Lib.Math.max.name).before args s = true) (hstat : (Cond.static Lib.Math.max.name).before args s = true) (hini : (Cond.initialized "java/lang/Math").before args s = true) (hcode : (Cond.code Lib.Math.max.name Lib.Math.max.code 2 (some .int)).before args s = true)
    (hframes : 1 ≤ R.frames) (hlocals : (rest.map fun v => v.category).sum + 13 ≤ R.locals) (hc : cells ≤ R.cells) (hs : slots ≤ R.slots) {a b : Int} (hr : -2147483648 ≤ a ∧ a ≤ 2147483647 ∧ -2147483648 ≤ b ∧ b ≤ 2147483647) (hdg : decode cc pc = .ok (.invokestatic index, 3))
    (kk : W p l e R s m args below meth c H locs cells slots Q (F0 m (pc + 3) ls (.int (zI (max a b)) :: rest))) : W p l e R s m args below meth c H locs cells slots Q (F0 m pc ls (.int (zI b) :: .int (zI a) :: rest)) := by
  refine va_mmax hx hb hml hown hlink hstat hini hcode hframes hlocals hc hs hdg ?_
  have e1 : (if zI a < zI b then zI b else zI a) = zI (max a b) := by
    simp only [zI_lt (a := a) (b := b) ⟨hr.1, hr.2.1⟩ hr.2.2]
    split
    · rw [Int.max_eq_right (by omega)]
    · rw [Int.max_eq_left (by omega)]
  rw [e1]
  exact kk
theorem z_mmin (hx : p.tables.exec = Jvm.exec) (hb : c.code = cc) (hml : c.maxLocals = ls.size) {own : String} {index : Nat} (hown : s.vm.findClass own = some m.cls) (hlink : (Cond.methodLink own index Lib.Math.min.name).before args s = true) (hstat : (Cond.static Lib.Math.min.name).before args s = true) (hini : (Cond.initialized "java/lang/Math").before args s = true) (hcode : (Cond.code Lib.Math.min.name Lib.Math.min.code 2 (some .int)).before args s = true)
    (hframes : 1 ≤ R.frames) (hlocals : (rest.map fun v => v.category).sum + 13 ≤ R.locals) (hc : cells ≤ R.cells) (hs : slots ≤ R.slots) {a b : Int} (hr : -2147483648 ≤ a ∧ a ≤ 2147483647 ∧ -2147483648 ≤ b ∧ b ≤ 2147483647) (hdg : decode cc pc = .ok (.invokestatic index, 3))
    (kk : W p l e R s m args below meth c H locs cells slots Q (F0 m (pc + 3) ls (.int (zI (min a b)) :: rest))) : W p l e R s m args below meth c H locs cells slots Q (F0 m pc ls (.int (zI b) :: .int (zI a) :: rest)) := by
  refine va_mmin hx hb hml hown hlink hstat hini hcode hframes hlocals hc hs hdg ?_
  have e1 : (if zI b < zI a then zI b else zI a) = zI (min a b) := by
    simp only [zI_lt (a := b) (b := a) hr.2.2 ⟨hr.1, hr.2.1⟩]
    split
    · rw [Int.min_eq_right (by omega)]
    · rw [Int.min_eq_left (by omega)]
  rw [e1]
  exact kk
theorem zCmp_s {a b : Int} : (zCmp a b < 0 ∧ a < b) ∨ (zCmp a b = 0 ∧ a = b) ∨ (0 < zCmp a b ∧ b < a) := by unfold zCmp; split <;> (try split) <;> omega
theorem z_nameI {a : Int} (k : ∀ r : Int, r = a → W p l e R s m args below meth c H locs cells slots Q (F0 m pc ls (.int (zI r) :: rest))) : W p l e R s m args below meth c H locs cells slots Q (F0 m pc ls (.int (zI a) :: rest)) := k a rfl
theorem z_nameL {a : Int} (k : ∀ r : Int, r = a → W p l e R s m args below meth c H locs cells slots Q (F0 m pc ls (.long (zL r) :: rest))) : W p l e R s m args below meth c H locs cells slots Q (F0 m pc ls (.long (zL a) :: rest)) := k a rfl
theorem z_ifC_eq (hx : p.tables.exec = Jvm.exec) (hb : c.code = cc) {a b off : Int} {tgt : Nat} (hdg : decode cc pc = .ok (.ifCond .eq off, 3)) (ht : (pc : Int) + off = (tgt : Int)) (kt : a = b → W p l e R s m args below meth c H locs cells slots Q (F0 m tgt ls rest)) (kf : a ≠ b → W p l e R s m args below meth c H locs cells slots Q (F0 m (pc + 3) ls rest)) : W p l e R s m args below meth c H locs cells slots Q (F0 m pc ls (.int (zI (zCmp a b)) :: rest)) :=
  z_if_eq hx hb hdg ht (by have := zCmp_r (a := a) (b := b); omega) (fun h => kt (by have := zCmp_s (a := a) (b := b); omega)) (fun h => kf (by have := zCmp_s (a := a) (b := b); omega))
theorem z_ifC_ne (hx : p.tables.exec = Jvm.exec) (hb : c.code = cc) {a b off : Int} {tgt : Nat} (hdg : decode cc pc = .ok (.ifCond .ne off, 3)) (ht : (pc : Int) + off = (tgt : Int)) (kt : a ≠ b → W p l e R s m args below meth c H locs cells slots Q (F0 m tgt ls rest)) (kf : a = b → W p l e R s m args below meth c H locs cells slots Q (F0 m (pc + 3) ls rest)) : W p l e R s m args below meth c H locs cells slots Q (F0 m pc ls (.int (zI (zCmp a b)) :: rest)) :=
  z_if_ne hx hb hdg ht (by have := zCmp_r (a := a) (b := b); omega) (fun h => kt (by have := zCmp_s (a := a) (b := b); omega)) (fun h => kf (by have := zCmp_s (a := a) (b := b); omega))
theorem z_ifC_lt (hx : p.tables.exec = Jvm.exec) (hb : c.code = cc) {a b off : Int} {tgt : Nat} (hdg : decode cc pc = .ok (.ifCond .lt off, 3)) (ht : (pc : Int) + off = (tgt : Int)) (kt : a < b → W p l e R s m args below meth c H locs cells slots Q (F0 m tgt ls rest)) (kf : b ≤ a → W p l e R s m args below meth c H locs cells slots Q (F0 m (pc + 3) ls rest)) : W p l e R s m args below meth c H locs cells slots Q (F0 m pc ls (.int (zI (zCmp a b)) :: rest)) :=
  z_if_lt hx hb hdg ht (by have := zCmp_r (a := a) (b := b); omega) (fun h => kt (by have := zCmp_s (a := a) (b := b); omega)) (fun h => kf (by have := zCmp_s (a := a) (b := b); omega))
theorem z_ifC_ge (hx : p.tables.exec = Jvm.exec) (hb : c.code = cc) {a b off : Int} {tgt : Nat} (hdg : decode cc pc = .ok (.ifCond .ge off, 3)) (ht : (pc : Int) + off = (tgt : Int)) (kt : b ≤ a → W p l e R s m args below meth c H locs cells slots Q (F0 m tgt ls rest)) (kf : a < b → W p l e R s m args below meth c H locs cells slots Q (F0 m (pc + 3) ls rest)) : W p l e R s m args below meth c H locs cells slots Q (F0 m pc ls (.int (zI (zCmp a b)) :: rest)) :=
  z_if_ge hx hb hdg ht (by have := zCmp_r (a := a) (b := b); omega) (fun h => kt (by have := zCmp_s (a := a) (b := b); omega)) (fun h => kf (by have := zCmp_s (a := a) (b := b); omega))
theorem z_ifC_gt (hx : p.tables.exec = Jvm.exec) (hb : c.code = cc) {a b off : Int} {tgt : Nat} (hdg : decode cc pc = .ok (.ifCond .gt off, 3)) (ht : (pc : Int) + off = (tgt : Int)) (kt : b < a → W p l e R s m args below meth c H locs cells slots Q (F0 m tgt ls rest)) (kf : a ≤ b → W p l e R s m args below meth c H locs cells slots Q (F0 m (pc + 3) ls rest)) : W p l e R s m args below meth c H locs cells slots Q (F0 m pc ls (.int (zI (zCmp a b)) :: rest)) :=
  z_if_gt hx hb hdg ht (by have := zCmp_r (a := a) (b := b); omega) (fun h => kt (by have := zCmp_s (a := a) (b := b); omega)) (fun h => kf (by have := zCmp_s (a := a) (b := b); omega))
theorem z_ifC_le (hx : p.tables.exec = Jvm.exec) (hb : c.code = cc) {a b off : Int} {tgt : Nat} (hdg : decode cc pc = .ok (.ifCond .le off, 3)) (ht : (pc : Int) + off = (tgt : Int)) (kt : a ≤ b → W p l e R s m args below meth c H locs cells slots Q (F0 m tgt ls rest)) (kf : b < a → W p l e R s m args below meth c H locs cells slots Q (F0 m (pc + 3) ls rest)) : W p l e R s m args below meth c H locs cells slots Q (F0 m pc ls (.int (zI (zCmp a b)) :: rest)) :=
  z_if_le hx hb hdg ht (by have := zCmp_r (a := a) (b := b); omega) (fun h => kt (by have := zCmp_s (a := a) (b := b); omega)) (fun h => kf (by have := zCmp_s (a := a) (b := b); omega))
theorem z_ishr (hx : p.tables.exec = Jvm.exec) (hb : c.code = cc) {a b : Int} (hdg : decode cc pc = .ok (.ishr, 1)) (ha : 0 ≤ a ∧ a ≤ 2147483647) (hb0 : 0 ≤ b ∧ b < 32) (k : W p l e R s m args below meth c H locs cells slots Q (F0 m (pc + 1) ls (.int (zI (a / 2 ^ b.toNat)) :: rest))) : W p l e R s m args below meth c H locs cells slots Q (F0 m pc ls (.int (zI b) :: .int (zI a) :: rest)) := by
  refine lv_ishr hx hb hdg ?_
  have h1 : zI b = zI ((b.toNat : Nat) : Int) := by rw [Int.toNat_of_nonneg hb0.1]
  rw [h1, zI_shr ha b.toNat (by omega)]
  exact k
theorem z_iand1 (hx : p.tables.exec = Jvm.exec) (hb : c.code = cc) {a : Int} (hdg : decode cc pc = .ok (.iand, 1)) (ha : 0 ≤ a ∧ a ≤ 2147483647) (k : W p l e R s m args below meth c H locs cells slots Q (F0 m (pc + 1) ls (.int (zI (a % 2)) :: rest))) : W p l e R s m args below meth c H locs cells slots Q (F0 m pc ls (.int (zI 1) :: .int (zI a) :: rest)) := by
  refine lv_iand hx hb hdg ?_
  have h1 : zI a &&& zI 1 = zI (a % 2) := zI_and1 ha
  rw [h1]
  exact k
theorem z_ior (hx : p.tables.exec = Jvm.exec) (hb : c.code = cc) {a b r : Int} (hdg : decode cc pc = .ok (.ior, 1)) (h : zI a ||| zI b = zI r) (k : W p l e R s m args below meth c H locs cells slots Q (F0 m (pc + 1) ls (.int (zI r) :: rest))) : W p l e R s m args below meth c H locs cells slots Q (F0 m pc ls (.int (zI b) :: .int (zI a) :: rest)) := by
  refine lv_ior hx hb hdg ?_
  rw [h]
  exact k
theorem z_eqI {a b : Int} (h : a = b) (k : W p l e R s m args below meth c H locs cells slots Q (F0 m pc ls (.int (zI b) :: rest))) : W p l e R s m args below meth c H locs cells slots Q (F0 m pc ls (.int (zI a) :: rest)) := by
  subst h
  exact k
theorem z_eqL {a b : Int} (h : a = b) (k : W p l e R s m args below meth c H locs cells slots Q (F0 m pc ls (.long (zL b) :: rest))) : W p l e R s m args below meth c H locs cells slots Q (F0 m pc ls (.long (zL a) :: rest)) := by
  subst h
  exact k
end MORE
end ZH
