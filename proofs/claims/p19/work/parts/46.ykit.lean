section YK
/-- a row's content by its entries and its length -/
def zG (ar : zk → Int → Int) (c : Int → Int) (r : Int) : Int → Int := rowAt (ar (1, r)) (c r)
def zRg (ad : zk → Nat) : Int → Option Nat := zV (zV (zV (zV (fun _ => none) 0 (some (ad (0, 0)))) 1 (some (ad (0, 1)))) 2 (some (ad (0, 2)))) 3 (some (ad (0, 3)))
theorem zRg_at {ad : zk → Nat} {a : Int} (h : 0 ≤ a ∧ a < 4) : zRg ad a = some (ad (0, a)) := by
  rcases (show a = 0 ∨ a = 1 ∨ a = 2 ∨ a = 3 by omega) with rfl | rfl | rfl | rfl <;> rfl
/-- the object's cells: rows 0, their entries 1, plans 2, their powers 3, the object 4, its rows 5, plans 6, transformer 7, convolver 8, left 9, right 10, the transformer's rows 11 to 15, the convolver's 16, 17 -/
def zY (cI cW cP : ClassId) (ad : zk → Nat) (ar : zk → Int → Int) (c : Int → Int) (np : Int) (pp pn : Int → Int) (pg : Int → Option Nat) : zk → Nat × va_E := fun k => match k.1 with
  | 0 => (ad k, .inr (2, [.ref (ad (1, k.2)), .int (zI (c k.2))]))
  | 1 => (ad k, .inl (cI, 64, .inl (zA (ar k))))
  | 2 => (ad k, .inr (1, [.int (zI (pp k.2)), .int (zI (pn k.2)), .int (zI (zInv (pp k.2) (pn k.2))), .int (zI (wset (pn k.2))), .int (zI (zGn (pn k.2))), .ref (ad (3, k.2))]))
  | 3 => (ad k, .inl (cI, 64, .inl (zA (ar k))))
  | 4 => (ad k, .inr (4, [.ref (ad (5, 0)), .ref (ad (6, 0)), .int (zI np), .ref (ad (7, 0)), .ref (ad (8, 0)), .ref (ad (9, 0)), .ref (ad (10, 0))]))
  | 5 => (ad k, .inl (cW, 4, .inr (.inr (.inr (.inr (fun k : Nat => zRg ad (k : Int)))))))
  | 6 => (ad k, .inl (cP, 8, .inr (.inr (.inr (.inr (fun k : Nat => pg (k : Int)))))))
  | 7 => (ad k, .inr (3, [.ref (ad (11, 0)), .ref (ad (12, 0)), .ref (ad (13, 0)), .ref (ad (14, 0)), .ref (ad (15, 0))]))
  | 8 => (ad k, .inr (0, [.ref (ad (16, 0)), .ref (ad (17, 0))]))
  | 9 => (ad k, .inl (cI, 64, .inl (zA (ar k))))
  | 10 => (ad k, .inl (cI, 64, .inl (zA (ar k))))
  | 11 => (ad k, .inl (cI, 64, .inl (zA (ar k))))
  | 12 => (ad k, .inl (cI, 64, .inl (zA (ar k))))
  | 13 => (ad k, .inl (cI, 64, .inl (zA (ar k))))
  | 14 => (ad k, .inl (cI, 64, .inl (zA (ar k))))
  | 15 => (ad k, .inl (cI, 128, .inl (zA (ar k))))
  | 16 => (ad k, .inl (cI, 64, .inl (zA (ar k))))
  | _ => (ad k, .inl (cI, 96, .inl (zA (ar k))))
def zYK (np : Int) : zk → Prop := fun k => (k.1 < 2 ∧ 0 ≤ k.2 ∧ k.2 < 4) ∨ (2 ≤ k.1 ∧ k.1 < 4 ∧ 0 ≤ k.2 ∧ k.2 < np) ∨ (4 ≤ k.1 ∧ k.1 ≤ 17 ∧ k.2 = 0)
theorem zK0 {np a : Int} (h : 0 ≤ a ∧ a < 4) : zYK np (0, a) := Or.inl ⟨by show 0 < 2; decide, h⟩
theorem zK1 {np a : Int} (h : 0 ≤ a ∧ a < 4) : zYK np (1, a) := Or.inl ⟨by show 1 < 2; decide, h⟩
theorem zK2 {np i : Int} (h : 0 ≤ i ∧ i < np) : zYK np (2, i) := Or.inr (Or.inl ⟨by show 2 ≤ 2; decide, by show 2 < 4; decide, h⟩)
theorem zK3 {np i : Int} (h : 0 ≤ i ∧ i < np) : zYK np (3, i) := Or.inr (Or.inl ⟨by show 2 ≤ 3; decide, by show 3 < 4; decide, h⟩)
theorem zKf {np : Int} (n : Nat) (h1 : Nat.ble 4 n = true) (h2 : Nat.ble n 17 = true) : zYK np (n, 0) := Or.inr (Or.inr ⟨Nat.le_of_ble_eq_true h1, Nat.le_of_ble_eq_true h2, rfl⟩)
theorem zY_fst (cI cW cP : ClassId) (ad : zk → Nat) (ar : zk → Int → Int) (c : Int → Int) (np : Int) (pp pn : Int → Int) (pg : Int → Option Nat) (k : zk) : (zY cI cW cP ad ar c np pp pn pg k).1 = ad k := by
  unfold zY
  split <;> rfl
theorem zY_ext {cI cW cP : ClassId} {ad : zk → Nat} {ar ar' : zk → Int → Int} {c c' : Int → Int} {np : Int} {pp pn : Int → Int} {pg : Int → Option Nat} {k : zk} (h : ar' k = ar k) (hc : k.1 = 0 → c' k.2 = c k.2) : zY cI cW cP ad ar' c' np pp pn pg k = zY cI cW cP ad ar c np pp pn pg k := by
  unfold zY
  rw [h]
  split <;> first | rfl | (rename_i h0; rw [hc h0])
def zUA (ar : zk → Int → Int) (k : zk) (g : Int → Int) : zk → Int → Int := fun j => if j = k then g else ar j
/-- what holds of the object's contents -/
def zYI (ad : zk → Nat) (ar : zk → Int → Int) (c : Int → Int) (np : Int) (pp pn : Int → Int) (pg : Int → Option Nat) : Prop := (0 ≤ np ∧ np ≤ 8) ∧ (∀ r, 0 ≤ r ∧ r < 4 → 0 ≤ c r ∧ c r ≤ 64) ∧ (∀ r, 0 ≤ r ∧ r < 4 → ∀ k, 0 ≤ k → k < c r → -1000000 ≤ ar (1, r) k ∧ ar (1, r) k ≤ 1000000) ∧ ∀ i, 0 ≤ i ∧ i < np → zPN (pp i) (pn i) ∧ zPW (pp i) (pn i) (ar (3, i)) ∧ pg i = some (ad (2, i))
/-- the object, as its calls show it: how many entries each row has, and which -/
def yS (D : va_G) (cI cW cP : ClassId) (ad : zk → Nat) (np : Int) (pp pn : Int → Int) (pg : Int → Option Nat) (c : Int → Int) (G : Int → Int → Int) (H : Heap) : Prop := ∃ ar, zYI ad ar c np pp pn pg ∧ zG ar c = G ∧ zFP D (zYK np) (zY cI cW cP ad ar c np pp pn pg) H
def yFr (ad : zk → Nat) (np : Int) (sz : Nat) : Nat → Prop := fun q => (∃ k, zYK np k ∧ q = ad k) ∨ sz ≤ q
/-- the cells are apart, and none is the script -/
def yE (ad : zk → Nat) (np : Int) (b L : Nat) : Prop := (∀ i j, zYK np i → zYK np j → ad i = ad j → i = j) ∧ (∀ k, zYK np k → ad k ≠ b) ∧ L ≤ 100000
abbrev yT (cI cW cP : ClassId) : List (ClassId × FieldType) := [(cI, .int), (cW, .object RX3), (cP, .object RX2)]
def yPre (D : va_G) (cI cW cP : ClassId) (ad : zk → Nat) (np : Int) (pp pn : Int → Int) (pg : Int → Option Nat) (b L : Nat) (xs : Nat → Int32) (c : Int → Int) (G : Int → Int → Int) (sz : Nat) : State → Prop := fun U => U.heap.size = sz ∧ yS D cI cW cP ad np pp pn pg c G U.heap ∧ va_K D vwCl (yT cI cW cP) U ∧ va_X b L xs U U.heap
theorem yPre_blind {D : va_G} {cI cW cP : ClassId} {ad : zk → Nat} {np : Int} {pp pn : Int → Int} {pg : Int → Option Nat} {b L : Nat} {xs : Nat → Int32} {c : Int → Int} {G : Int → Int → Int} {sz : Nat} {av : List Value} : FrameBlind (va_Pc av (yPre D cI cW cP ad np pp pn pg b L xs c G sz)) := fun a U g mk q => by
  obtain ⟨q0, q1, qS, qK, qX⟩ := q
  exact ⟨q0, q1, qS, va_K.moved (u := U) (U := U.calling g mk a) (Vm.Alike.refl U.vm) qK, va_X.moved (u := U) (U := U.calling g mk a) (Vm.Alike.refl U.vm) qX⟩
def yQ (D : va_G) (cI cW cP : ClassId) (ad : zk → Nat) (np : Int) (pp pn : Int → Int) (pg : Int → Option Nat) (P : Int → (Int → Int) → (Int → Int → Int) → Prop) (sz : Nat) : Array Value → State → Outcome → State → Prop := fun _ st oc t => (∃ (v : Int) (c' : Int → Int) (G' : Int → Int → Int), oc = .returned (some (.int (zI v))) ∧ P v c' G' ∧ yS D cI cW cP ad np pp pn pg c' G' t.heap) ∧ va_F (yFr ad np sz) st t
/-- a contract: the object has rows c, G; the answer and the rows behind it have P -/
def yC (l : Launch) (y : MethodName) (wsy : List Cond) (rm : Room) (D : va_G) (cI cW cP : ClassId) (ad : zk → Nat) (np : Int) (pp pn : Int → Int) (pg : Int → Option Nat) (b L : Nat) (xs : Nat → Int32) (c : Int → Int) (G : Int → Int → Int) (av : List Value) (P : Int → (Int → Int) → (Int → Int → Int) → Prop) : Prop :=
  ∀ sz : Nat, Met l y wsy rm (va_Pc av (yPre D cI cW cP ad np pp pn pg b L xs c G sz)) (yQ D cI cW cP ad np pp pn pg P sz) 0 0 (yFr ad np sz)
section
variable {l : Launch} {y : MethodName} {wsy ws' : List Cond} {rm : Room} {D : va_G} {cI cW cP : ClassId} {ad : zk → Nat} {np : Int} {pp pn : Int → Int} {pg : Int → Option Nat} {b L : Nat} {xs : Nat → Int32} {c : Int → Int} {G : Int → Int → Int} {av : List Value} {P : Int → (Int → Int) → (Int → Int → Int) → Prop}
theorem yS_c {H : Heap} (h : yS D cI cW cP ad np pp pn pg c G H) {r : Int} (hr : 0 ≤ r ∧ r < 4) : 0 ≤ c r ∧ c r ≤ 64 := by
  obtain ⟨ar, hI, -, -⟩ := h
  exact hI.2.1 r hr
theorem yS_g {H : Heap} (h : yS D cI cW cP ad np pp pn pg c G H) {r k : Int} (hr : 0 ≤ r ∧ r < 4) : -1000000 ≤ G r k ∧ G r k ≤ 1000000 := by
  obtain ⟨ar, hI, hG, -⟩ := h
  subst hG
  exact rowAt_rng (hI.2.2.1 r hr) (by decide)
theorem yS_0 {H : Heap} (h : yS D cI cW cP ad np pp pn pg c G H) {r k : Int} (hk : ¬ (0 ≤ k ∧ k < c r)) : G r k = 0 := by
  obtain ⟨ar, -, hG, -⟩ := h
  subst hG
  exact rowAt_out hk
theorem yS_p {H : Heap} (h : yS D cI cW cP ad np pp pn pg c G H) {i : Int} (hi : 0 ≤ i ∧ i < np) : zPN (pp i) (pn i) := by
  obtain ⟨ar, hI, -, -⟩ := h
  exact (hI.2.2.2 i hi).1
/-- a contract over some of the object's cells, said of the whole object -/
theorem yc_lift (hE : yE ad np b L) (h0 : rm.cells = 0) (h1 : rm.slots = 0)
    (h : ∀ ar, zYI ad ar c np pp pn pg → zG ar c = G → ∃ (S : Type) (tys : List (ClassId × FieldType)) (isT : List Nat) (kc kr : List zk) (post : S → Prop) (v : S → Option Value) (w1 : S → va_W),
      zC l y wsy rm D tys (kc.map (zY cI cW cP ad ar c np pp pn pg)) (kr.map (zY cI cW cP ad ar c np pp pn pg)) av post v w1 ∧ isT.filterMap (fun i => (yT cI cW cP)[i]?) = tys ∧ (∀ k ∈ kc, zYK np k) ∧ (∀ k ∈ kr, zYK np k) ∧ kc.Nodup ∧ (∀ k ∈ kr, k ∉ kc) ∧
      ∀ u, post u → ∃ (a : Int) (ar' : zk → Int → Int) (c' : Int → Int), v u = some (.int (zI a)) ∧ kc.map (zY cI cW cP ad ar' c' np pp pn pg) = w1 u ∧ (∀ k, k ∉ kc → zY cI cW cP ad ar' c' np pp pn pg k = zY cI cW cP ad ar c np pp pn pg k) ∧ zYI ad ar' c' np pp pn pg ∧ P a c' (zG ar' c')) :
    yC l y wsy rm D cI cW cP ad np pp pn pg b L xs c G av P := by
  intro sz p e ha hc hk s m args below hf happ hP hK9
  obtain ⟨hav, hsz, ⟨ar, hYI, hG, hF⟩, hK, hX⟩ := hP
  obtain ⟨S, tys, isT, kc, kr, post, v, w1, hC, ht, hkc, hkr, hn, hd, hp⟩ := h ar hYI hG
  have hIn : zIn (zYK np) (zY cI cW cP ad ar c np pp pn pg) := fun i j hi hj hij => hE.1 i j hi hj (by rw [← zY_fst cI cW cP ad ar c np pp pn pg i, ← zY_fst cI cW cP ad ar c np pp pn pg j]; exact hij)
  have hPc := zf_sub hF kc hkc rfl
  have hPr := zf_sub hF kr hkr rfl
  have hDc : va_D (fun _ => True) (kc.map (zY cI cW cP ad ar c np pp pn pg)) := zf_subD hIn (fun _ _ => trivial) kc hkc hn rfl
  have hXc := zf_dis hIn kc kr hkc hkr hd (wc := kc.map (zY cI cW cP ad ar c np pp pn pg)) (rc := kr.map (zY cI cW cP ad ar c np pp pn pg)) rfl rfl
  obtain ⟨n, o, k1, k2, k3, ⟨⟨u, ho, hpu, hP1, hD1⟩, hFr⟩, LL, hL1, hL2⟩ := hC sz p e ha hc hk s m args below hf happ ⟨hav, hsz, hPc, hK.sub isT ht, hDc, hPr, hXc⟩ trivial
  obtain ⟨a, ar', c', g1, g2, g3, g4, g5⟩ := hp u hpu
  subst hsz
  have hsub : ∀ q, va_A (kc.map (zY cI cW cP ad ar c np pp pn pg)) s.heap.size q → yFr ad np s.heap.size q := by
    intro q hq
    rcases hq with ⟨j, e9, hj⟩ | hq
    · obtain ⟨k', j1, j2⟩ := zf_at rfl hj
      refine Or.inl ⟨k', hkc _ (List.mem_of_getElem? j1), ?_⟩
      rw [← zY_fst cI cW cP ad ar c np pp pn pg k', j2]
    · exact Or.inr hq
  obtain ⟨q1, -, -⟩ := zf_frame (K2 := zYK np) (W2 := zY cI cW cP ad ar' c' np pp pn pg) (kn := kc) hF hIn hkc rfl g2 (fun k hk => by
    by_cases hm : k ∈ kc
    · exact Or.inl hm
    · exact Or.inr ⟨hk, hm, g3 k hm⟩) hFr.2 hP1 hD1
  refine ⟨n, o, k1, k2, k3, ⟨⟨a, c', _, by rw [← g1]; exact ho, g5, ar', g4, rfl, q1⟩, hFr.1, fun q w1 w2 => hFr.2 q w1 (fun z => w2 (hsub q z))⟩, LL, ?_, fun q hq => hsub _ (hL2 q hq)⟩
  rw [h0, h1] at hL1
  exact hL1
theorem yc_start {cc : ByteArray} {maxL : Nat} {ret : Option FieldType} {own : String} (hE : yE ad np b L) (h0 : rm.cells = 0) (h1 : rm.slots = 0)
    (hy : plainName y.cls = true) (hw : wsy = Cond.code y cc maxL ret :: ws') (ho : y.cls = own) (hav : (lg_sl av).length ≤ maxL) (lv : List (Nat × Value)) (hlv : lv_args 0 av = lv)
    (body : ∀ (p : Program) (e : Env) (s : State) (m : MethodId) (below : List Frame) (meth : Method) (cd : Code) (A : Nat → Prop) (H : Heap) (ls : Array Slot),
      p.tables.exec = Jvm.exec → cd.code = cc → meth.sig.returnType = ret → cd.maxLocals = maxL → (∀ w ∈ wsy, w.before av.toArray s = true) → s.vm.findClass own = some m.cls → meth.locks = false → va_K D vwCl (yT cI cW cP) s → A = yFr ad np s.heap.size → va_X b L xs s s.heap → b < s.heap.size → ¬ A b → yS D cI cW cP ad np pp pn pg c G H → va_S A s.heap H [] → lv_has ls maxL lv →
      W p l e rm s m av.toArray below meth cd H [] 0 0 (MQ below (yQ D cI cW cP ad np pp pn pg P s.heap.size) av.toArray s 0 0 A) (F0 m 0 ls [])) : yC l y wsy rm D cI cW cP ad np pp pn pg b L xs c G av P := by
  intro sz
  refine Met.ofW hy hw ?_
  intro p e s m args below meth cd s₁ B hml hv
  obtain ⟨rfl, hsz, hS, hK, hX⟩ := hv
  subst hsz
  subst ho
  subst hlv
  rw [lg_entry_eq]
  have hbl : b < s.heap.size := by
    obtain ⟨scr, h2, -⟩ := hX
    exact (Array.getElem?_eq_some_iff.mp h2).1
  refine body p e s m below meth cd (yFr ad np s.heap.size) s.heap _ B.exec B.bytes B.returns hml (atoms_spec (ws := wsy) B.pre) (findClass_of_methodNamed B.named) B.notSynchronized hK rfl hX hbl (fun h => ?_) hS va_S.rf (lv_entry av hav)
  rcases h with ⟨k, hk1, hk2⟩ | h
  · exact hE.2.1 k hk1 hk2.symm
  · omega
end
section TH
variable {p : Program} {l : Launch} {e : Env} {R : Room} {s : State} {m : MethodId} {args : Array Value} {below : List Frame} {meth : Method} {cd : Code} {H : Heap} {locs : List Loc} {cells slots : Nat} {Q : State → Prop}
variable {cc : ByteArray} {pc : Nat} {ls : Array Slot} {st0 rest av : List Value} {A : Nat → Prop}
variable {D : va_G} {cI cW cP : ClassId} {ad : zk → Nat} {np : Int} {pp pn : Int → Int} {pg : Int → Option Nat} {b L : Nat} {xs : Nat → Int32} {c : Int → Int} {G : Int → Int → Int} {P : Int → (Int → Int) → (Int → Int → Int) → Prop}
theorem yFr_le {ad : zk → Nat} {np : Int} {m n q : Nat} (h : m ≤ n) (hq : yFr ad np n q) : yFr ad np m q := by
  rcases hq with hq | hq
  · exact Or.inl hq
  · exact Or.inr (Nat.le_trans h hq)
/-- behind a call -/
theorem yc_call (hr : va_Run p l e R s m args below meth cd H locs cells slots 0 0 (F0 m pc ls st0) rest (yQ D cI cW cP ad np pp pn pg P H.size av.toArray) (yFr ad np H.size)) (hAe : A = yFr ad np s.heap.size) (hS : va_S A s.heap H locs)
    (kk : ∀ (v : Int) (c' : Int → Int) (G' : Int → Int → Int) (H1 : Heap) (locs1 : List Loc), P v c' G' → yS D cI cW cP ad np pp pn pg c' G' H1 → va_S A s.heap H1 locs1 → W p l e R s m args below meth cd H1 locs1 cells slots Q (F0 m (pc + 3) ls (.int (zI v) :: rest))) : W p l e R s m args below meth cd H locs cells slots Q (F0 m pc ls st0) := by
  intro T hT X
  obtain ⟨v, st₀, t, T', LL, h0, X', hL, e1, e2, ⟨⟨a, c', G', hv, hp, hY⟩, hz, hk⟩, st⟩ := hr T hT X
  cases hv
  rw [h0] at hz hk
  have hFA : ∀ q, yFr ad np H.size q → A q := fun q hq => by rw [hAe]; exact yFr_le hS.1 hq
  obtain ⟨t2, a1, b1⟩ := kk a c' G' T'.heap (locs ++ LL) hp (by rw [e1]; exact hY) ⟨Nat.le_trans hS.1 (by rw [e1]; exact hz), fun q h1 h2 => by rw [e1, hk q (Nat.lt_of_lt_of_le h1 hS.1) (fun z => h2 (hFA q z))]; exact hS.2.1 q h1 h2, fun q hq => by
      rcases List.mem_append.mp hq with h | h
      · exact hS.2.2 q h
      · exact hFA _ (hL q h)⟩ T' rfl X'
  exact ⟨t2, st t2 a1, b1⟩
theorem yc_preS (hK : va_K D vwCl (yT cI cW cP) s) (hX : va_X b L xs s s.heap) (hbl : b < s.heap.size) (hbA : ¬ A b) (hS : va_S A s.heap H locs) (hY : yS D cI cW cP ad np pp pn pg c G H) : PreS s H (va_Pc av (yPre D cI cW cP ad np pp pn pg b L xs c G H.size)) av :=
  ⟨yPre_blind, fun U hU hW => ⟨rfl, by rw [hU], by rw [hU]; exact hY, va_K.moved hW.alike hK, va_X.moved hW.alike (hX.kept (by rw [hU]; exact hS.2.1 b hbl hbA))⟩⟩
theorem yc_preV (hK : va_K D vwCl (yT cI cW cP) s) (hX : va_X b L xs s s.heap) (hbl : b < s.heap.size) (hbA : ¬ A b) (hS : va_S A s.heap H locs) (hY : yS D cI cW cP ad np pp pn pg c G H) {As : List Value} : PreV s H RX5 (ad (4, 0)) (va_Pc (.ref (ad (4, 0)) :: As) (yPre D cI cW cP ad np pp pn pg b L xs c G H.size)) As := by
  refine ⟨yPre_blind, ?_, fun U hU hW => ⟨rfl, by rw [hU], by rw [hU]; exact hY, va_K.moved hW.alike hK, va_X.moved hW.alike (hX.kept (by rw [hU]; exact hS.2.1 b hbl hbA))⟩⟩
  obtain ⟨ar, -, -, hF⟩ := hY
  have h1 := zf_sub hF [(4, 0)] (List.forall_mem_cons.mpr ⟨zKf 4 rfl rfl, fun _ h => absurd h List.not_mem_nil⟩) (wc := [(ad (4, 0), .inr (4, [.ref (ad (5, 0)), .ref (ad (6, 0)), .int (zI np), .ref (ad (7, 0)), .ref (ad (8, 0)), .ref (ad (9, 0)), .ref (ad (10, 0))]))]) rfl
  exact va_recv hK h1 (ci := 4) (q0 := 0) rfl rfl
theorem y_iret (hx : p.tables.exec = Jvm.exec) (hb : cd.code = cc) {ty : FieldType} (hr : meth.sig.returnType = some ty) (hlocks : meth.locks = false) (v : Int) (hn : narrow ty (.int (zI v)) = .int (zI v)) (hp : P v c G) (hY : yS D cI cW cP ad np pp pn pg c G H) (hAe : A = yFr ad np s.heap.size) (hS : va_S A s.heap H locs) (hdg : decode cc pc = .ok (.ireturn, 1)) :
    W p l e R s m args below meth cd H locs cells slots (MQ below (yQ D cI cW cP ad np pp pn pg P s.heap.size) args s cells slots A) (F0 m pc ls [.int (zI v)]) := by
  subst hAe
  exact W.zret hx hb hr hn (fun t ht _ => ⟨⟨v, c, G, rfl, hp, by rw [ht]; exact hY⟩, hS.F ht⟩) hS.2.2 hdg hlocks
theorem z_sld (hx : p.tables.exec = Jvm.exec) (hb : cd.code = cc) (hX : va_X b L xs s s.heap) (hbl : b < s.heap.size) (hbA : ¬ A b) (hS : va_S A s.heap H locs) {i : Int} (N : Nat) (hi : i = (N : Int)) (hN : N < L) (hL : N < 100000) (hdg : decode cc pc = .ok (.iaload, 1))
    (kk : W p l e R s m args below meth cd H locs cells slots Q (F0 m (pc + 1) ls (.int (zI (xs N).toInt) :: rest))) : W p l e R s m args below meth cd H locs cells slots Q (F0 m pc ls (.int (zI i) :: .ref b :: rest)) := by
  refine va_sld hx hb hX hbl hbA hS (show vp_in (zI i) L from ?_) hdg ?_
  · intro h
    rcases h with h | h
    · rw [show (0 : Int32) = zI 0 from by decide, zI_lt (by omega) (by omega)] at h
      omega
    · rw [z_cl (by omega), show i.toNat = N by omega] at h
      omega
  have e1 : xs (zI i).toNatClampNeg = zI (xs N).toInt := by
    rw [z_cl (by omega), show i.toNat = N by omega]
    exact zI_of _
  rw [e1]
  exact kk
theorem z_slen (hx : p.tables.exec = Jvm.exec) (hb : cd.code = cc) (hX : va_X b L xs s s.heap) (hbl : b < s.heap.size) (hbA : ¬ A b) (hS : va_S A s.heap H locs) (hdg : decode cc pc = .ok (.arraylength, 1))
    (kk : W p l e R s m args below meth cd H locs cells slots Q (F0 m (pc + 1) ls (.int (zI (L : Int)) :: rest))) : W p l e R s m args below meth cd H locs cells slots Q (F0 m pc ls (.ref b :: rest)) := by
  refine va_slen hx hb hX hbl hbA hS hdg ?_
  have e1 : Int32.ofNat L = zI (L : Int) := Int32.ofInt_eq_ofNat.symm
  rw [e1]
  exact kk
theorem zI_ushr1 (x : Int) : ((zI x).toUInt32 >>> ((zI 1).toUInt32 &&& Int32.toUInt32 31)).toInt32 = zI (((zI x).toBitVec.toNat / 2 : Nat) : Int) := by
  have h1 := pk_ushr (zI x) (zI 1) 1 (by decide)
  have h2 : (zI x).toBitVec.toNat < 2 ^ 32 := (zI x).toBitVec.isLt
  apply Int32.toInt_inj.mp
  rw [zI_t (by omega)]
  show BitVec.toInt _ = _
  rw [BitVec.toInt_eq_toNat_cond, h1]
  split <;> omega
/-- a shift to the right by one: any number from 0 on -/
theorem z_iushr1 (hx : p.tables.exec = Jvm.exec) (hb : cd.code = cc) {a : Int} (hdg : decode cc pc = .ok (.iushr, 1)) (k : ∀ r : Int, 0 ≤ r ∧ r ≤ 2147483647 → W p l e R s m args below meth cd H locs cells slots Q (F0 m (pc + 1) ls (.int (zI r) :: rest))) : W p l e R s m args below meth cd H locs cells slots Q (F0 m pc ls (.int (zI 1) :: .int (zI a) :: rest)) := by
  refine lv_iushr hx hb hdg (zI_ushr1 a) ?_
  have h2 : (zI a).toBitVec.toNat < 2 ^ 32 := (zI a).toBitVec.isLt
  exact k _ (by omega)
end TH
theorem zG_t {ar' : zk → Int → Int} {c : Int → Int} {t n : Int} {g : Int → Int} (ht : rowAt (ar' (1, t)) n = g) : zG ar' (zU c t n) t = g := by
  unfold zG
  rw [zU_s]
  exact ht
theorem zG_o {ar ar' : zk → Int → Int} {c : Int → Int} {t n r : Int} (hr : r ≠ t) (h : ar' (1, r) = ar (1, r)) : zG ar' (zU c t n) r = zG ar c r := by
  unfold zG
  rw [zU_n _ _ hr, h]
theorem zYI_up {ad : zk → Nat} {ar ar' : zk → Int → Int} {c : Int → Int} {np : Int} {pp pn : Int → Int} {pg : Int → Option Nat} {t n : Int} (h : zYI ad ar c np pp pn pg) (hn : 0 ≤ n ∧ n ≤ 64) (ht : ∀ k, 0 ≤ k → k < n → -1000000 ≤ ar' (1, t) k ∧ ar' (1, t) k ≤ 1000000) (hr : ∀ r, r ≠ t → ar' (1, r) = ar (1, r)) (h3 : ∀ i, ar' (3, i) = ar (3, i)) : zYI ad ar' (zU c t n) np pp pn pg := by
  refine ⟨h.1, fun r hr4 => ?_, fun r hr4 k h1 h2 => ?_, fun i hi => ?_⟩
  · by_cases e : r = t
    · subst e; rw [zU_s]; exact hn
    · rw [zU_n _ _ e]; exact h.2.1 r hr4
  · by_cases e : r = t
    · subst e; rw [zU_s] at h2; exact ht k h1 h2
    · rw [zU_n _ _ e] at h2; rw [hr r e]; exact h.2.2.1 r hr4 k h1 h2
  · rw [h3 i]; exact h.2.2.2 i hi
theorem zYI_ro {ad : zk → Nat} {ar ar' : zk → Int → Int} {c : Int → Int} {np : Int} {pp pn : Int → Int} {pg : Int → Option Nat} (h : zYI ad ar c np pp pn pg) (hr : ∀ r, ar' (1, r) = ar (1, r)) (h3 : ∀ i, ar' (3, i) = ar (3, i)) : zYI ad ar' c np pp pn pg :=
  ⟨h.1, h.2.1, fun r hr4 k h1 h2 => by rw [hr r]; exact h.2.2.1 r hr4 k h1 h2, fun i hi => by rw [h3 i]; exact h.2.2.2 i hi⟩
end YK
