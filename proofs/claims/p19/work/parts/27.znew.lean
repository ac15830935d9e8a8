section ZN
theorem wset_8 (n : Int) : wset n / 2 ^ (3 : Int).toNat % 2 = 1 ↔ (2 < n ∧ (1 < n ∧ lfac n = n)) := by
  have e : (2 : Int) ^ (3 : Int).toNat = 8 := by decide
  rw [e]
  unfold wset
  by_cases a : lpp n < n <;> by_cases b : (2 < n ∧ (1 < n ∧ lfac n = n)) <;> simp only [a, b, if_true, if_false] <;> decide
theorem wset_4 (n : Int) : wset n / 2 ^ (2 : Int).toNat % 2 = 1 ↔ lpp n < n := by
  have e : (2 : Int) ^ (2 : Int).toNat = 4 := by decide
  rw [e]
  unfold wset
  by_cases a : lpp n < n <;> by_cases b : (2 < n ∧ (1 < n ∧ lfac n = n)) <;> simp only [a, b, if_true, if_false] <;> decide
theorem wset_014 (n : Int) : wset n / 2 ^ (0 : Int).toNat % 2 = 1 ∧ wset n / 2 ^ (1 : Int).toNat % 2 = 1 ∧ wset n / 2 ^ (4 : Int).toNat % 2 = 1 := by
  have e : (2 : Int) ^ (0 : Int).toNat = 1 ∧ (2 : Int) ^ (1 : Int).toNat = 2 ∧ (2 : Int) ^ (4 : Int).toNat = 16 := by decide
  rw [e.1, e.2.1, e.2.2]
  unfold wset
  by_cases a : lpp n < n <;> by_cases b : (2 < n ∧ (1 < n ∧ lfac n = n)) <;> simp only [a, b, if_true, if_false] <;> decide
/-- a plan's generator -/
def zGn (n : Int) : Int := if wset n / 2 ^ (3 : Int).toNat % 2 = 1 then lpr n else 1
variable {p : Program} {l : Launch} {e : Env} {R : Room} {s : State} {m : MethodId} {args : Array Value} {below : List Frame} {meth : Method} {c : Code} {H H0 : Heap} {locs : List Loc} {cells slots : Nat} {Q : State → Prop}
variable {cc : ByteArray} {pc : Nat} {ls : Array Slot} {rest : List Value} {D : va_G} {A : Nat → Prop} {a : Nat} {tys : List (ClassId × FieldType)} {ws rs : va_W}
/-- one place of a row of references changed -/
def zV (g : Int → Option Nat) (i : Int) (v : Option Nat) : Int → Option Nat := fun k => if k = i then v else g k
theorem zV_s (g : Int → Option Nat) (i : Int) (v : Option Nat) : zV g i v i = v := by simp [zV]
theorem zV_n (g : Int → Option Nat) {i k : Int} (v : Option Nat) (h : k ≠ i) : zV g i v k = g k := by simp [zV, h]
theorem z_nneg {i : Int} {N : Nat} (hi : i = (N : Int)) (hN : N ≤ 2147483647) : ¬ zI i < 0 ∧ (zI i).toNatClampNeg = N := by
  subst hi
  have h0 : (0 : Int32) = zI 0 := by decide
  refine ⟨?_, by rw [z_cl (by omega)]; exact Int.toNat_natCast N⟩
  rw [h0, zI_lt (by omega) (by omega)]
  omega
theorem z_0I (cA : ClassId) (N : Nat) : vp_cell cA (N, .inl (zA (fun _ => 0))) = arrV cA N (fun _ => defaultValue .int) := by
  have h : zI 0 = 0 := by decide
  have h2 : zA (fun _ => 0) = fun _ => 0 := funext fun _ => h
  rw [h2]
  rfl
theorem z_0L (cA : ClassId) (N : Nat) : vp_cell cA (N, .inr (.inl (fun _ => zL 0))) = arrV cA N (fun _ => defaultValue .long) := by
  have h : zL 0 = 0 := by decide
  rw [h]
  rfl
theorem z_newa (hx : p.tables.exec = Jvm.exec) (hb : c.code = cc) (harr : (Cond.arrayClass .int).before args s = true) {cA : ClassId} (hK : va_K D vwCl tys s) (t0 : Nat) (ht : tys[t0]? = some (cA, .int)) (hP : va_P D vwCl ws H) (hD : va_D A ws) (hS : va_S A H0 H locs) (hA : ∀ q, H0.size ≤ q → A q)
    {i : Int} {N : Nat} (hi : i = (N : Int)) (hN : Nat.ble N 1000 = true) (hcells : cells + 1 ≤ R.cells) (hslots : slots + N ≤ R.slots) (hdg : decode cc pc = .ok (.newarray .int, 2))
    (kk : ∀ (q : Nat) (H1 : Heap), va_P D vwCl (ws ++ [(q, .inl (cA, N, .inl (zA (fun _ => 0))))]) H1 → va_D A (ws ++ [(q, .inl (cA, N, .inl (zA (fun _ => 0))))]) → va_S A H0 H1 locs →
      W p l e R s m args below meth c H1 locs (cells + 1) (slots + N) Q (F0 m (pc + 2) ls (.ref q :: rest))) : W p l e R s m args below meth c H locs cells slots Q (F0 m pc ls (.int (zI i) :: rest)) := by
  have hN := Nat.le_of_ble_eq_true hN
  obtain ⟨h1, h2⟩ := z_nneg hi (by omega)
  refine va_newa (atype := .int) (a0 := (N, .inl (zA (fun _ => 0)))) hx hb harr (ty := .int) rfl hK hP hD hS hA (fun cA => z_0I cA N) h1 h2 (by show N * 4 ≤ _; omega) hcells hslots hdg (fun q cB H1 hK1 hP1 hD1 hS1 => ?_)
  have e1 : s.vm.findClass ("[" ++ FieldType.int.toString) = some cB := (hK1.2 tys.length (cB, .int) (by simp)).2
  have e2 : s.vm.findClass ("[" ++ FieldType.int.toString) = some cA := (hK.2 t0 _ ht).2
  have e3 : cB = cA := Option.some.inj (e1.symm.trans e2)
  subst e3
  exact kk q H1 hP1 hD1 hS1
theorem z_newl (hx : p.tables.exec = Jvm.exec) (hb : c.code = cc) (harr : (Cond.arrayClass .long).before args s = true) {cA : ClassId} (hK : va_K D vwCl tys s) (t0 : Nat) (ht : tys[t0]? = some (cA, .long)) (hP : va_P D vwCl ws H) (hD : va_D A ws) (hS : va_S A H0 H locs) (hA : ∀ q, H0.size ≤ q → A q)
    {i : Int} {N : Nat} (hi : i = (N : Int)) (hN : Nat.ble N 1000 = true) (hcells : cells + 1 ≤ R.cells) (hslots : slots + N ≤ R.slots) (hdg : decode cc pc = .ok (.newarray .long, 2))
    (kk : ∀ (q : Nat) (H1 : Heap), va_P D vwCl (ws ++ [(q, .inl (cA, N, .inr (.inl (fun _ => zL 0))))]) H1 → va_D A (ws ++ [(q, .inl (cA, N, .inr (.inl (fun _ => zL 0))))]) → va_S A H0 H1 locs →
      W p l e R s m args below meth c H1 locs (cells + 1) (slots + N) Q (F0 m (pc + 2) ls (.ref q :: rest))) : W p l e R s m args below meth c H locs cells slots Q (F0 m pc ls (.int (zI i) :: rest)) := by
  have hN := Nat.le_of_ble_eq_true hN
  obtain ⟨h1, h2⟩ := z_nneg hi (by omega)
  refine va_newa (atype := .long) (a0 := (N, .inr (.inl (fun _ => zL 0)))) hx hb harr (ty := .long) rfl hK hP hD hS hA (fun cA => z_0L cA N) h1 h2 (by show N * 8 ≤ _; omega) hcells hslots hdg (fun q cB H1 hK1 hP1 hD1 hS1 => ?_)
  have e1 : s.vm.findClass ("[" ++ FieldType.long.toString) = some cB := (hK1.2 tys.length (cB, .long) (by simp)).2
  have e2 : s.vm.findClass ("[" ++ FieldType.long.toString) = some cA := (hK.2 t0 _ ht).2
  have e3 : cB = cA := Option.some.inj (e1.symm.trans e2)
  subst e3
  exact kk q H1 hP1 hD1 hS1
theorem z_newq (hx : p.tables.exec = Jvm.exec) (hb : c.code = cc) {own C : String} {index : Nat} (hown : s.vm.findClass own = some m.cls) (hclink : (Cond.classLink own index C).before args s = true) (hover : va_AO C s) {cA : ClassId} (hK : va_K D vwCl tys s) (t0 : Nat) (ht : tys[t0]? = some (cA, .object C)) (hP : va_P D vwCl ws H) (hD : va_D A ws) (hS : va_S A H0 H locs) (hA : ∀ q, H0.size ≤ q → A q)
    {i : Int} {N : Nat} (hi : i = (N : Int)) (hN : Nat.ble N 1000 = true) (hcells : cells + 1 ≤ R.cells) (hslots : slots + N ≤ R.slots) (hdg : decode cc pc = .ok (.anewarray index, 3))
    (kk : ∀ (q : Nat) (H1 : Heap), va_P D vwCl (ws ++ [(q, .inl (cA, N, .inr (.inr (.inr (.inr (fun k : Nat => (fun _ : Int => (none : Option Nat)) (k : Int)))))))]) H1 → va_D A (ws ++ [(q, .inl (cA, N, .inr (.inr (.inr (.inr (fun k : Nat => (fun _ : Int => (none : Option Nat)) (k : Int)))))))]) → va_S A H0 H1 locs →
      W p l e R s m args below meth c H1 locs (cells + 1) (slots + N) Q (F0 m (pc + 3) ls (.ref q :: rest))) : W p l e R s m args below meth c H locs cells slots Q (F0 m pc ls (.int (zI i) :: rest)) := by
  have hN := Nat.le_of_ble_eq_true hN
  obtain ⟨h1, h2⟩ := z_nneg hi (by omega)
  refine va_newq hx hb hown hclink hover hK hP hD hS hA h1 h2 (by omega) hcells hslots hdg (fun q cB H1 hK1 hP1 hD1 hS1 => ?_)
  obtain ⟨-, -, -, -, -, e1⟩ := (hK1.2 tys.length (cB, .object C) (by simp)).2
  obtain ⟨-, -, -, -, -, e2⟩ := (hK.2 t0 _ ht).2
  have e3 : cB = cA := Option.some.inj (e1.symm.trans e2)
  subst e3
  exact kk q H1 hP1 hD1 hS1
theorem z_aast (hx : p.tables.exec = Jvm.exec) (hb : c.code = cc) (hK : va_K D vwCl tys s) (hP : va_P D vwCl ws H) (hD : va_D A ws) (hS : va_S A H0 H locs) (q0 t0 qk ci : Nat) {cA : ClassId} {r : vw_C} {n v : Nat} {vs : List Value} {g : Int → Option Nat} (ha : ws[q0]? = some (a, .inl (cA, n, .inr (.inr (.inr (.inr (fun k : Nat => g (k : Int)))))))) (ht : tys[t0]? = some (cA, .object r.1)) (hv : ws[qk]? = some (v, .inr (ci, vs))) (hc : vwCl[ci]? = some r) (hn : Nat.ble n 2147483647 = true) {i : Int} (hi : 0 ≤ i ∧ i < (n : Int)) (hdg : decode cc pc = .ok (.aastore, 1))
    (kk : ∀ (H1 : Heap) (locs1 : List Loc), va_P D vwCl (ws.set q0 (a, .inl (cA, n, .inr (.inr (.inr (.inr (fun k : Nat => zV g i (some v) (k : Int)))))))) H1 → va_D A (ws.set q0 (a, .inl (cA, n, .inr (.inr (.inr (.inr (fun k : Nat => zV g i (some v) (k : Int)))))))) → va_S A H0 H1 locs1 → W p l e R s m args below meth c H1 locs1 cells slots Q (F0 m (pc + 1) ls rest)) : W p l e R s m args below meth c H locs cells slots Q (F0 m pc ls (.ref v :: .int (zI i) :: .ref a :: rest)) := by
  have hn := Nat.le_of_ble_eq_true hn
  refine va_astq hx hb hK hP hD hS q0 t0 qk ci ha ht hv hc (z_in hi hn) hdg ?_
  have e1 : va_up (fun k : Nat => g (k : Int)) (zI i).toNatClampNeg (some v) = (fun k : Nat => zV g i (some v) (k : Int)) := by
    rw [z_cl (by omega)]
    funext k
    show (if k = i.toNat then some v else g k) = (if (k : Int) = i then some v else g k)
    by_cases h : k = i.toNat
    · rw [if_pos h, if_pos (by omega)]
    · rw [if_neg h, if_neg (by omega)]
  rw [e1]
  exact kk
end ZN
/-- what the tables say beside the words: private members of nest mates, rows of references -/
def zXE (U : State) : Prop := va_Nw (.methodLinkNest RX5 23 yX4_init RX5) U ∧ va_Nw (.methodLinkNest RX5 30 yX0_init RX5) U ∧ va_Nw (.methodLinkNest RX5 42 yX3_init RX5) U ∧ va_AO RX3 U ∧ va_AO RX2 U
theorem zXE.warm {s U : State} (hW : s.WarmedH U.vm) (h : zXE s) : zXE U :=
  ⟨h.1.warmM hW, h.2.1.warmM hW, h.2.2.1.warmM hW, h.2.2.2.1.moved hW.alike, h.2.2.2.2.moved hW.alike⟩
theorem zXE.call {U : State} {g : JFrame} {mk : MethodId} {a : Array Value} (h : zXE U) : zXE (U.calling g mk a) :=
  ⟨h.1.same rfl rfl, h.2.1.same rfl rfl, h.2.2.1.same rfl rfl, h.2.2.2.1.moved (U := U.calling g mk a) (Vm.Alike.refl U.vm), h.2.2.2.2.moved (U := U.calling g mk a) (Vm.Alike.refl U.vm)⟩
def zCE (l : Launch) (y : MethodName) (wsy : List Cond) (rm : Room) (D : va_G) (tys : List (ClassId × FieldType)) (wc rc : va_W) (av : List Value) {S : Type} (post : S → Prop) (v : S → Option Value) (w1 : S → va_W) : Prop :=
  ∀ sz : Nat, Met l y wsy rm (va_Pc av (fun U => zPre D tys wc rc sz U ∧ zXE U)) (zQ D post v w1 (va_A wc sz)) rm.cells rm.slots (va_A wc sz)
theorem z_startE {l : Launch} {y : MethodName} {wsy ws' : List Cond} {rm : Room} {D : va_G} {tys : List (ClassId × FieldType)} {wc rc : va_W} {av : List Value} {S : Type} {post : S → Prop} {v : S → Option Value} {w1 : S → va_W} {cc : ByteArray} {maxL : Nat} {ret : Option FieldType} {own : String}
    (hy : plainName y.cls = true) (hw : wsy = Cond.code y cc maxL ret :: ws') (ho : y.cls = own) (hav : (lg_sl av).length ≤ maxL) (lv : List (Nat × Value)) (hlv : lv_args 0 av = lv)
    (body : ∀ (p : Program) (e : Env) (s : State) (m : MethodId) (below : List Frame) (meth : Method) (c : Code) (A : Nat → Prop) (H : Heap) (ls : Array Slot), zXE s →
      p.tables.exec = Jvm.exec → c.code = cc → meth.sig.returnType = ret → c.maxLocals = maxL → (∀ w ∈ wsy, w.before av.toArray s = true) → s.vm.findClass own = some m.cls → meth.locks = false → meth.name = y.name → va_K D vwCl tys s → (∀ q : Nat, s.heap.size ≤ q → A q) → va_P D vwCl wc H → va_D A wc → va_S A s.heap H [] → zRO D rc A s → va_P D vwCl rc H → lv_has ls maxL lv →
      W p l e rm s m av.toArray below meth c H [] 0 0 (MQ below (zQ D post v w1 A) av.toArray s rm.cells rm.slots A) (F0 m 0 ls [])) : zCE l y wsy rm D tys wc rc av post v w1 := by
  intro sz
  refine Met.ofW hy hw ?_
  intro p e s m args below meth c s₁ B hml hv
  obtain ⟨rfl, ⟨hsz, hP, hK, hD0, hR, hX⟩, hE⟩ := hv
  subst hsz
  subst ho
  subst hlv
  rw [lg_entry_eq]
  refine body p e s m below meth c (va_A wc s.heap.size) s.heap _ hE B.exec B.bytes B.returns hml (atoms_spec (ws := wsy) B.pre) (findClass_of_methodNamed B.named) B.notSynchronized (name_of_methodNamed B.named B.method).1 hK (fun q h => Or.inr h) hP (hD0.self) va_S.rf (fun k q hk => ⟨hR k q hk, fun h => ?_⟩) hR (lv_entry av hav)
  rcases h with ⟨k2, e2, h2⟩ | h2
  · exact hX k2 k (q.1, e2) q h2 hk rfl
  · have := (hR k q hk).lt
    omega
theorem z_preE {H : Heap} {s : State} {D : va_G} {tys' : List (ClassId × FieldType)} {wc rc : va_W} {av : List Value} {A : Nat → Prop} (hE : zXE s) (hP : va_P D vwCl wc H) (hD : va_D A wc) (hRc : va_P D vwCl rc H) (hX : ∀ (i j : Nat) (x y : Nat × va_E), wc[i]? = some x → rc[j]? = some y → x.1 ≠ y.1) (hK : va_K D vwCl tys' s) : PreS s H (va_Pc av (fun U => zPre D tys' wc rc H.size U ∧ zXE U)) av :=
  ⟨fun a U g mk q => by
    obtain ⟨q0, ⟨q1, qP, qK, qD, qR, qX⟩, qE⟩ := q
    exact ⟨q0, ⟨q1, qP, va_K.moved (u := U) (U := U.calling g mk a) (Vm.Alike.refl U.vm) qK, qD, qR, qX⟩, qE.call⟩, fun U hU hW => ⟨rfl, ⟨by rw [hU], by rw [hU]; exact hP, va_K.moved hW.alike hK, hD.weaken (fun _ _ _ _ => trivial), by rw [hU]; exact hRc, hX⟩, hE.warm hW⟩⟩
