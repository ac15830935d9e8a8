section ZLW
/-- a row's content by its entries and its length -/
def zG (ar : zk → Int → Int) (c : Int → Int) (r : Int) : Int → Int := rowAt (ar (1, r)) (c r)
def zRg (ad : zk → Nat) : Int → Option Nat := zV (zV (zV (zV (fun _ => none) 0 (some (ad (0, 0)))) 1 (some (ad (0, 1)))) 2 (some (ad (0, 2)))) 3 (some (ad (0, 3)))
theorem zRg_at {ad : zk → Nat} {a : Int} (h : 0 ≤ a ∧ a < 4) : zRg ad a = some (ad (0, a)) := by
  rcases (show a = 0 ∨ a = 1 ∨ a = 2 ∨ a = 3 by omega) with rfl | rfl | rfl | rfl <;> rfl
/-- the object's cells: rows 0, their entries 1, plans 2, their powers 3, the object 4, its rows 5, plans 6, transformer 7, convolver 8, left 9, right 10, the transformer's rows 11 to 15, the convolver's 16, 17, the law's answer 18 -/
def zY (cI cW cP cJ : ClassId) (ad : zk → Nat) (ar : zk → Int → Int) (c : Int → Int) (np : Int) (pp pn : Int → Int) (pg : Int → Option Nat) (o : Nat → Int64) : zk → Nat × va_E := fun k => match k.1 with
  | 0 => (ad k, .inr (2, [.ref (ad (1, k.2)), .int (zI (c k.2))]))
  | 1 => (ad k, .inl (cI, 64, .inl (zA (ar k))))
  | 2 => (ad k, .inr (1, [.int (zI (pp k.2)), .int (zI (pn k.2)), .int (zI (zInv (pp k.2) (pn k.2))), .int (zI (wset (pn k.2))), .int (zI (zGn (pn k.2))), .ref (ad (3, k.2))]))
  | 3 => (ad k, .inl (cI, 64, .inl (zA (ar k))))
  | 4 => (ad k, .inr (4, [.ref (ad (5, 0)), .ref (ad (6, 0)), .int (zI np), .ref (ad (7, 0)), .ref (ad (8, 0)), .ref (ad (9, 0)), .ref (ad (10, 0))]))
  | 5 => (ad k, .inl (cW, 4, .inr (.inr (.inr (.inr (fun k : Nat => zRg ad (k : Int)))))))
  | 6 => (ad k, .inl (cP, 8, .inr (.inr (.inr (.inr (fun k : Nat => pg (k : Int)))))))
  | 7 => (ad k, .inr (3, [.ref (ad (11, 0)), .ref (ad (12, 0)), .ref (ad (13, 0)), .ref (ad (14, 0)), .ref (ad (15, 0))]))
  | 8 => (ad k, .inr (0, [.ref (ad (16, 0)), .ref (ad (17, 0))]))
  | 9 => (ad k, .inl (cI, 64, .inl (zA (ar k))))
  | 10 => (ad k, .inl (cI, 64, .inl (zA (ar k))))
  | 11 => (ad k, .inl (cI, 64, .inl (zA (ar k))))
  | 12 => (ad k, .inl (cI, 64, .inl (zA (ar k))))
  | 13 => (ad k, .inl (cI, 64, .inl (zA (ar k))))
  | 14 => (ad k, .inl (cI, 64, .inl (zA (ar k))))
  | 15 => (ad k, .inl (cI, 128, .inl (zA (ar k))))
  | 16 => (ad k, .inl (cI, 64, .inl (zA (ar k))))
  | 17 => (ad k, .inl (cI, 96, .inl (zA (ar k))))
  | _ => (ad k, .inl (cJ, 1, .inr (.inl o)))
def zYK (np : Int) : zk → Prop := fun k => (k.1 < 2 ∧ 0 ≤ k.2 ∧ k.2 < 4) ∨ (2 ≤ k.1 ∧ k.1 < 4 ∧ 0 ≤ k.2 ∧ k.2 < np) ∨ (4 ≤ k.1 ∧ k.1 ≤ 18 ∧ k.2 = 0)
theorem zK0 {np a : Int} (h : 0 ≤ a ∧ a < 4) : zYK np (0, a) := Or.inl ⟨by show 0 < 2; decide, h⟩
theorem zK1 {np a : Int} (h : 0 ≤ a ∧ a < 4) : zYK np (1, a) := Or.inl ⟨by show 1 < 2; decide, h⟩
theorem zK2 {np i : Int} (h : 0 ≤ i ∧ i < np) : zYK np (2, i) := Or.inr (Or.inl ⟨by show 2 ≤ 2; decide, by show 2 < 4; decide, h⟩)
theorem zK3 {np i : Int} (h : 0 ≤ i ∧ i < np) : zYK np (3, i) := Or.inr (Or.inl ⟨by show 2 ≤ 3; decide, by show 3 < 4; decide, h⟩)
theorem zKf {np : Int} (n : Nat) (h1 : Nat.ble 4 n = true) (h2 : Nat.ble n 18 = true) : zYK np (n, 0) := Or.inr (Or.inr ⟨Nat.le_of_ble_eq_true h1, Nat.le_of_ble_eq_true h2, rfl⟩)
theorem zY_fst (cI cW cP cJ : ClassId) (ad : zk → Nat) (ar : zk → Int → Int) (c : Int → Int) (np : Int) (pp pn : Int → Int) (pg : Int → Option Nat) (o : Nat → Int64) (k : zk) : (zY cI cW cP cJ ad ar c np pp pn pg o k).1 = ad k := by
  unfold zY
  split <;> rfl
theorem zY_ext {cI cW cP cJ : ClassId} {ad : zk → Nat} {ar ar' : zk → Int → Int} {c c' : Int → Int} {np : Int} {pp pn : Int → Int} {pg : Int → Option Nat} {o : Nat → Int64} {k : zk} (h : ar' k = ar k) (hc : k.1 = 0 → c' k.2 = c k.2) : zY cI cW cP cJ ad ar' c' np pp pn pg o k = zY cI cW cP cJ ad ar c np pp pn pg o k := by
  unfold zY
  rw [h]
  split <;> first | rfl | (rename_i h0; rw [hc h0])
theorem zY_out {cI cW cP cJ : ClassId} {ad : zk → Nat} {ar : zk → Int → Int} {c : Int → Int} {np : Int} {pp pn : Int → Int} {pg : Int → Option Nat} {o o' : Nat → Int64} {k : zk} (hk : zYK np k) (h : k ≠ (18, 0)) : zY cI cW cP cJ ad ar c np pp pn pg o' k = zY cI cW cP cJ ad ar c np pp pn pg o k := by
  obtain ⟨a, b⟩ := k
  have h1 : a < 18 := by
    rcases hk with q | q | q
    · have := q.1; dsimp only at this; omega
    · have := q.2.1; dsimp only at this; omega
    · have q1 := q.2.1
      have q2 := q.2.2
      dsimp only at q1 q2
      rcases Nat.lt_or_ge a 18 with z | z
      · exact z
      · exact absurd (by rw [show a = 18 by omega, q2]) h
  rcases (show a = 0 ∨ a = 1 ∨ a = 2 ∨ a = 3 ∨ a = 4 ∨ a = 5 ∨ a = 6 ∨ a = 7 ∨ a = 8 ∨ a = 9 ∨ a = 10 ∨ a = 11 ∨ a = 12 ∨ a = 13 ∨ a = 14 ∨ a = 15 ∨ a = 16 ∨ a = 17 by omega) with rfl | rfl | rfl | rfl | rfl | rfl | rfl | rfl | rfl | rfl | rfl | rfl | rfl | rfl | rfl | rfl | rfl | rfl <;> rfl
def zUA (ar : zk → Int → Int) (k : zk) (g : Int → Int) : zk → Int → Int := fun j => if j = k then g else ar j
/-- what holds of the object's contents -/
def zYI (ad : zk → Nat) (ar : zk → Int → Int) (c : Int → Int) (np : Int) (pp pn : Int → Int) (pg : Int → Option Nat) : Prop := (0 ≤ np ∧ np ≤ 8) ∧ (∀ r, 0 ≤ r ∧ r < 4 → 0 ≤ c r ∧ c r ≤ 64) ∧ (∀ r, 0 ≤ r ∧ r < 4 → ∀ k, 0 ≤ k → k < c r → -1000000 ≤ ar (1, r) k ∧ ar (1, r) k ≤ 1000000) ∧ ∀ i, 0 ≤ i ∧ i < np → zPN (pp i) (pn i) ∧ zPW (pp i) (pn i) (ar (3, i)) ∧ pg i = some (ad (2, i))
/-- what a call of the law's own methods leaves: its number, the answer, the rows -/
def zWp (cl v : Int) (mt : Prop) (c : Int → Int) (ar : zk → Int → Int) (t n : Int) (val : Int → Int) : Int × (Nat → Int64) × (Int → Int) × (zk → Int → Int) → Prop := fun u =>
  u.1 = cl ∧ (cl = 0 → u.2.1 0 = zL v ∧ -2147483648 ≤ v ∧ v ≤ 2147483647) ∧ ((cl = 0 ∧ mt) → u.2.2.1 = zU c t n ∧ ∀ k, 0 ≤ k → k < n → u.2.2.2 (1, t) k = val k) ∧ (¬ (cl = 0 ∧ mt) → u.2.2.1 = c) ∧ (∀ r, (cl = 0 ∧ mt → r ≠ t) → u.2.2.2 (1, r) = ar (1, r)) ∧ ∀ i, u.2.2.2 (3, i) = ar (3, i)
theorem zWp_err {cl v : Int} {mt : Prop} {c : Int → Int} {ar : zk → Int → Int} {t n : Int} {val : Int → Int} {o : Nat → Int64} (h : cl ≠ 0) : zWp cl v mt c ar t n val (cl, o, c, ar) :=
  ⟨rfl, fun q => absurd q h, fun q => absurd q.1 h, fun _ => rfl, fun _ _ => rfl, fun _ => rfl⟩
theorem zWp_ro {v : Int} {c : Int → Int} {ar ar' : zk → Int → Int} {t n : Int} {val : Int → Int} {o : Nat → Int64} (h : o 0 = zL v) (hg : -2147483648 ≤ v ∧ v ≤ 2147483647) (h1 : ∀ r, ar' (1, r) = ar (1, r)) (h3 : ∀ i, ar' (3, i) = ar (3, i)) : zWp 0 v False c ar t n val (0, o, c, ar') :=
  ⟨rfl, fun _ => ⟨h, hg⟩, fun q => q.2.elim, fun _ => rfl, fun r _ => h1 r, h3⟩
theorem zWp_mu {v : Int} {c c' : Int → Int} {ar ar' : zk → Int → Int} {t n : Int} {val : Int → Int} {o : Nat → Int64} (h : o 0 = zL v) (hg : -2147483648 ≤ v ∧ v ≤ 2147483647) (hc : c' = zU c t n) (hv : ∀ k, 0 ≤ k → k < n → ar' (1, t) k = val k) (h1 : ∀ r, r ≠ t → ar' (1, r) = ar (1, r)) (h3 : ∀ i, ar' (3, i) = ar (3, i)) : zWp 0 v True c ar t n val (0, o, c', ar') :=
  ⟨rfl, fun _ => ⟨h, hg⟩, fun _ => ⟨hc, hv⟩, fun q => (q ⟨rfl, trivial⟩).elim, fun r hr => h1 r (hr ⟨rfl, trivial⟩), h3⟩
abbrev zRW : Room := { frames := 10, cells := 2, slots := 70, locals := 400 }
def zPreW (A0 : Nat → Prop) (D : va_G) (tys : List (ClassId × FieldType)) (K : zk → Prop) (W : zk → Nat × va_E) (sz : Nat) : State → Prop := fun U => U.heap.size = sz ∧ zFP D K W U.heap ∧ va_K D vwCl tys U ∧ zIn K W ∧ zXT A0 U ∧ ∀ q : Nat, zFr K W sz q → A0 q
theorem zPreW_blind {A0 : Nat → Prop} {D : va_G} {tys : List (ClassId × FieldType)} {K : zk → Prop} {W : zk → Nat × va_E} {sz : Nat} {av : List Value} : FrameBlind (va_Pc av (zPreW A0 D tys K W sz)) := fun a U g mk q => by
  obtain ⟨q0, q1, qF, qK, qI, qX, qA⟩ := q
  exact ⟨q0, q1, qF, va_K.moved (u := U) (U := U.calling g mk a) (Vm.Alike.refl U.vm) qK, qI, qX.call, qA⟩
def zQW {S : Type} (D : va_G) (K : zk → Prop) (W : zk → Nat × va_E) (post : S → Prop) (v : S → Option Value) (K2 : S → zk → Prop) (W2 : S → zk → Nat × va_E) (sz : Nat) : Array Value → State → Outcome → State → Prop := fun _ st oc t => (∃ u : S, oc = .returned (v u) ∧ post u ∧ zFP D (K2 u) (W2 u) t.heap ∧ zIn (K2 u) (W2 u) ∧ ∀ k, K2 u k → zFr K W sz (W2 u k).1) ∧ va_F (zFr K W sz) st t
def zWC (l : Launch) (y : MethodName) (wsy : List Cond) (D : va_G) (tys : List (ClassId × FieldType)) (K : zk → Prop) (W : zk → Nat × va_E) (av : List Value) {S : Type} (post : S → Prop) (v : S → Option Value) (K2 : S → zk → Prop) (W2 : S → zk → Nat × va_E) : Prop :=
  ∀ (A0 : Nat → Prop) (sz : Nat), Met l y wsy zRW (va_Pc av (zPreW A0 D tys K W sz)) (zQW D K W post v K2 W2 sz) 2 70 (zFr K W sz)
theorem z_startW {l : Launch} {y : MethodName} {wsy ws' : List Cond} {D : va_G} {tys : List (ClassId × FieldType)} {K : zk → Prop} {W0 : zk → Nat × va_E} {av : List Value} {S : Type} {post : S → Prop} {v : S → Option Value} {K2 : S → zk → Prop} {W2 : S → zk → Nat × va_E} {cc : ByteArray} {maxL : Nat} {ret : Option FieldType} {hh : List (Nat × Nat × Nat × Nat)} {own : String}
    (hy : plainName y.cls = true) (hw : wsy = Cond.codeWith y cc maxL ret hh :: ws') (ho : y.cls = own) (hav : (lg_sl av).length ≤ maxL) (lv : List (Nat × Value)) (hlv : lv_args 0 av = lv)
    (body : ∀ (p : Program) (e : Env) (s : State) (m : MethodId) (below : List Frame) (meth : Method) (c : Code) (A0 : Nat → Prop) (H : Heap) (ls : Array Slot), zXT A0 s → (∀ q : Nat, zFr K W0 s.heap.size q → A0 q) → c.exceptionTable.toList = tableOf hh → p.tables.exec = Jvm.exec → c.code = cc → meth.sig.returnType = ret → c.maxLocals = maxL → (∀ w ∈ wsy, w.before av.toArray s = true) → s.vm.findClass own = some m.cls → meth.locks = false → va_K D vwCl tys s → zFP D K W0 H → zIn K W0 → (∀ k, K k → zFr K W0 s.heap.size (W0 k).1) → va_S (zFr K W0 s.heap.size) s.heap H [] → (∀ q : Nat, s.heap.size ≤ q → zFr K W0 s.heap.size q) → lv_has ls maxL lv →
      W p l e zRW s m av.toArray below meth c H [] 0 0 (MQ below (zQW D K W0 post v K2 W2 s.heap.size) av.toArray s 2 70 (zFr K W0 s.heap.size)) (F0 m 0 ls [])) : zWC l y wsy D tys K W0 av post v K2 W2 := by
  intro A0 sz
  refine va_MetW hy hw ?_
  intro p e s m args below meth c s₁ B hml hv
  obtain ⟨rfl, hsz, hF, hK, hI, hX, hA⟩ := hv
  subst hsz
  subst ho
  subst hlv
  rw [lg_entry_eq]
  exact body p e s m below meth c A0 s.heap _ hX hA (vx_table (x := y) B (atoms_spec (ws := wsy) B.pre _ (by rw [hw]; exact List.mem_cons_self))) B.exec B.bytes B.returns hml (atoms_spec (ws := wsy) B.pre) (findClass_of_methodNamed B.named) B.notSynchronized hK hF hI (fun k hk => Or.inl ⟨k, hk, rfl⟩) va_S.rf (fun q h => Or.inr h) (lv_entry av hav)
section TH
variable {p : Program} {l : Launch} {e : Env} {R : Room} {s : State} {m : MethodId} {args : Array Value} {below : List Frame} {meth : Method} {c : Code} {H : Heap} {locs : List Loc} {cells slots : Nat} {Q : State → Prop}
variable {cc : ByteArray} {pc : Nat} {ls : Array Slot} {st0 rest av : List Value} {A A0 : Nat → Prop} {D : va_G} {K : zk → Prop} {W1 : zk → Nat × va_E} {tys : List (ClassId × FieldType)}
/-- behind a call of a contract in lists, seen from a family -/
theorem zf_call {mc ms : Nat} {S : Type} {post : S → Prop} {vo : S → Option Value} {w1 : S → va_W} {wc : va_W} (hr : va_Run p l e R s m args below meth c H locs cells slots mc ms (F0 m pc ls st0) rest (zQ D post vo w1 (va_A wc H.size) av.toArray) (va_A wc H.size)) (hF : zFP D K W1 H) (hI : zIn K W1) (hKA : ∀ k, K k → A (W1 k).1) (hS : va_S A s.heap H locs) (hA : ∀ q : Nat, s.heap.size ≤ q → A q)
    (kc kn : List zk) (hkc : ∀ k ∈ kc, K k) (ec : kc.map W1 = wc) (K2 : S → zk → Prop) (W2 : S → zk → Nat × va_E) (en : ∀ u, post u → kn.map (W2 u) = w1 u) (hK2 : ∀ u, post u → ∀ k, K2 u k → k ∈ kn ∨ (K k ∧ k ∉ kc ∧ W2 u k = W1 k)) {cells' slots' : Nat} (hc : cells + mc = cells') (hs : slots + ms = slots')
    (kk : ∀ (u : S) (H1 : Heap) (locs1 : List Loc), post u → zFP D (K2 u) (W2 u) H1 → zIn (K2 u) (W2 u) → (∀ k, K2 u k → A (W2 u k).1) → va_S A s.heap H1 locs1 → W p l e R s m args below meth c H1 locs1 cells' slots' Q (F0 m (pc + 3) ls ((vo u).toList ++ rest))) : W p l e R s m args below meth c H locs cells slots Q (F0 m pc ls st0) := by
  subst hc
  subst hs
  intro T hT X
  obtain ⟨v, st₀, t, T', L, h0, X', hL, e1, e2, ⟨⟨u, hv, hp, hP1, hD1⟩, hz, hk⟩, st⟩ := hr T hT X
  cases hv
  rw [h0] at hz hk
  have hFr : ∀ q, va_A wc H.size q → zFr K W1 H.size q := by
    intro q h
    rcases h with ⟨j, e, h⟩ | h
    · obtain ⟨k', g1, g2⟩ := zf_at ec h
      exact Or.inl ⟨k', hkc _ (List.mem_of_getElem? g1), by rw [g2]⟩
    · exact Or.inr h
  have hFA : ∀ q, zFr K W1 H.size q → A q := by
    intro q h
    rcases h with ⟨k, h1, h2⟩ | h
    · rw [h2]
      exact hKA k h1
    · exact hA q (Nat.le_trans hS.1 h)
  obtain ⟨q1, q2, q3⟩ := zf_frame hF hI hkc ec (en u hp) (hK2 u hp) hk hP1 hD1
  obtain ⟨t2, a1, b1⟩ := kk u T'.heap (locs ++ L) hp (by rw [e1]; exact q1) q2 (fun k h => hFA _ (q3 k h)) ⟨Nat.le_trans hS.1 (by rw [e1]; exact hz), fun q h1 h2 => by rw [e1, hk q (Nat.lt_of_lt_of_le h1 hS.1) (fun z => h2 (hFA q (hFr q z)))]; exact hS.2.1 q h1 h2, fun q hq => by
      rcases List.mem_append.mp hq with h | h
      · exact hS.2.2 q h
      · exact hFA _ (hFr _ (hL q h))⟩ T' rfl X'
  exact ⟨t2, st t2 a1, b1⟩
theorem zw_preTV {rc : va_W} {C : String} {b : Nat} {As : List Value} (hrv : ∃ cell : Cell, H[b]? = some cell ∧ cell.vm.isStatics = false ∧ s.vm.findClass C = some cell.cls) (hX : zXT A0 s) (hAA : ∀ q : Nat, A q → A0 q) (hA : ∀ q : Nat, s.heap.size ≤ q → A q) (hS : va_S A s.heap H locs) (hRc : va_P D vwCl rc H) (hK : va_K D vwCl tys s) : PreV s H C b (va_Pc (.ref b :: As) (zPreT A0 D tys rc H.size)) As :=
  ⟨zPreT_blind, hrv, fun U hU hW => ⟨rfl, by rw [hU], va_K.moved hW.alike hK, by rw [hU]; exact hRc, hX.go hS hAA hU hW, fun q h => hAA q (hA q (Nat.le_trans hS.1 h))⟩⟩
/-- a call that throws, caught by the row x -/
theorem zw_catch {own E name : String} (hr : vx_Run p l e R s m args below meth c H locs cells slots 1 6 (F0 m pc ls st0) rest (fun _ _ _ => False) (zXC E H.size) (fun q => H.size ≤ q)) (hF : zFP D K W1 H) (hS : va_S A s.heap H locs) (hA : ∀ q : Nat, s.heap.size ≤ q → A q) (hown : s.vm.findClass own = some m.cls) (pre : List ExceptionTableEntry) (x : ExceptionTableEntry) (suf : List ExceptionTableEntry) (hsplit : c.exceptionTable.toList = pre ++ x :: suf)
    (hpass : ∀ z ∈ pre, covers z pc = false ∨ (z.catchType ≠ 0 ∧ ∃ nm : String, (Cond.classLink own z.catchType nm).before args s = true ∧ va_Nc E nm s)) (hx0 : covers x pc = true) (h0 : x.catchType ≠ 0) (hlink : (Cond.classLink own x.catchType name).before args s = true) (hcast : (Cond.castable E name).before args s = true)
    (kk : ∀ (q : Addr) (H1 : Heap) (locs1 : List Loc), zFP D K W1 H1 → va_S A s.heap H1 locs1 → W p l e R s m args below meth c H1 locs1 (cells + 1) (slots + 6) Q (F0 m x.handlerPc ls [.ref q])) : W p l e R s m args below meth c H locs cells slots Q (F0 m pc ls st0) := by
  intro T hT X
  rcases hr T hT X with ⟨v, st₀, t, T', L, h0', X', hL, e1, e2, hFF, st⟩ | ⟨q, st₀, t, T', L, E', ce, h0', X', hL, e1, e2, ⟨hE, hFF⟩, hce, hcv, hcl, st⟩
  · exact hFF.elim
  · subst hE
    obtain ⟨k1, k2, k3⟩ := vx_keep (A0 := A) (A1 := fun q : Nat => H.size ≤ q) (free := fun q : Nat => H.size ≤ q) h0' e1 hS (fun q _ h2 => hA q (Nat.le_trans hS.1 h2)) (fun q h => hA q (Nat.le_trans hS.1 h)) hL hFF
    have hW := vx_catch (p := p) (l := l) (e := e) (R := R) (below := below) (args := args) (H := T'.heap) (q := q) (cells := cells + 1) (slots := slots + 6) (pc := pc) (ls := ls) (rest := rest) (m := m) hown pre x suf hsplit hpass hx0 h0 hlink hcast (by rw [e1]; exact hce) hcv hcl (kk q T'.heap (locs ++ L) (fun k hk => (hF k hk).kept (k2 _ (hF k hk).lt (by have := (hF k hk).lt; omega))) k3)
    obtain ⟨t2, a1, b1⟩ := hW T' rfl X'
    exact ⟨t2, st.trans a1, b1⟩
/-- the answer is written -/
theorem zw_last (hx : p.tables.exec = Jvm.exec) (hb : c.code = cc) (hK : va_K D vwCl tys s) (hF : zFP D K W1 H) (hI : zIn K W1) (hKA : ∀ k, K k → A (W1 k).1) (hS : va_S A s.heap H locs) {ko : zk} (hko : K ko) {a : Nat} {cA : ClassId} {f : Nat → Int64} {v : Int} (ha : W1 ko = (a, .inl (cA, 1, .inr (.inl f)))) (t0 : Nat) (ht : tys[t0]? = some (cA, .long)) (hdg : decode cc pc = .ok (.lastore, 1)) (W2 : zk → Nat × va_E) (h2 : ∀ k, K k → k ≠ ko → W2 k = W1 k) (h2o : W2 ko = (a, .inl (cA, 1, .inr (.inl (vp_updL f 0 (zL v))))))
    (kk : ∀ (H1 : Heap) (locs1 : List Loc), zFP D K W2 H1 → zIn K W2 → (∀ k, K k → A (W2 k).1) → va_S A s.heap H1 locs1 → W p l e R s m args below meth c H1 locs1 cells slots Q (F0 m (pc + 1) ls rest)) : W p l e R s m args below meth c H locs cells slots Q (F0 m pc ls (.long (zL v) :: .int (zI 0) :: .ref a :: rest)) := by
  have hf1 : ∀ k, K k → (W2 k).1 = (W1 k).1 := fun k hk => by
    by_cases h : k = ko
    · rw [h, h2o, ha]
    · rw [h2 k hk h]
  have haa : (W1 ko).1 = a := by rw [ha]
  have hP := hF ko hko
  rw [ha] at hP
  refine W.last hx hb hP ((hK.2 t0 _ ht).1 1 (fun j => .long (f j))) (fun q => by cases q) (by show ¬ (zI 0 < 0 ∨ (arrV _ _ _).slots.size ≤ _); rw [arrV_size]; exact (z_in (i := 0) (n := 1) ⟨Int.le_refl _, by decide⟩ (by decide) : vp_in (zI 0) 1)) rfl rfl hdg fun H1 e z oq => ?_
  refine kk H1 _ (fun k hk => ?_) (fun i j hi hj hij => hI i j hi hj (by rw [← hf1 i hi, ← hf1 j hj]; exact hij)) (fun k hk => by rw [hf1 k hk]; exact hKA k hk) (hS.put z oq (by rw [← haa]; exact hKA ko hko))
  by_cases h : k = ko
  · rw [h, h2o]
    show H1[a]? = some (vp_cell _ _)
    rw [e, vp_cell_l, vp_cell_l, arrV_store]
    rfl
  · rw [h2 k hk h]
    refine (hF k hk).kept (oq _ (fun q => h (hI k ko hk hko ?_)))
    rw [haa]
    exact q
theorem zw_iret {S : Type} {post : S → Prop} {v : S → Option Value} {K2 : S → zk → Prop} {W2 : S → zk → Nat × va_E} {K0 : zk → Prop} {W0 : zk → Nat × va_E} (hx : p.tables.exec = Jvm.exec) (hb : c.code = cc) (hr : meth.sig.returnType = some .int) (hlocks : meth.locks = false) {x : Int32} (u : S) (hv : v u = some (.int x)) (hp : post u) (hF : zFP D (K2 u) (W2 u) H) (hI : zIn (K2 u) (W2 u)) (hA : ∀ k, K2 u k → zFr K0 W0 s.heap.size (W2 u k).1) (hS : va_S (zFr K0 W0 s.heap.size) s.heap H locs) (hdg : decode cc pc = .ok (.ireturn, 1)) :
    W p l e R s m args below meth c H locs cells slots (MQ below (zQW D K0 W0 post v K2 W2 s.heap.size) args s cells slots (zFr K0 W0 s.heap.size)) (F0 m pc ls [.int x]) :=
  W.zret hx hb hr rfl (fun t ht _ => ⟨⟨u, by rw [hv], hp, by rw [ht]; exact hF, hI, hA⟩, hS.F ht⟩) hS.2.2 hdg hlocks
end TH
end ZLW
