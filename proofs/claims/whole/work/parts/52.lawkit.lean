section LK
def zHs (D : va_G) (K : zk → Prop) (W : zk → Nat × va_E) (M : va_W) (A : Nat → Prop) (H : Heap) : Prop := zFP D K W H ∧ zIn K W ∧ (∀ k, K k → A (W k).1) ∧ va_P D vwCl M H ∧ va_D A M ∧ ∀ (k : zk) (i : Nat) (q : Nat × va_E), K k → M[i]? = some q → (W k).1 ≠ q.1
section TH
variable {p : Program} {l : Launch} {e : Env} {R : Room} {s : State} {m : MethodId} {args : Array Value} {below : List Frame} {meth : Method} {c : Code} {H : Heap} {locs : List Loc} {cells slots : Nat} {Q : State → Prop}
variable {cc : ByteArray} {pc : Nat} {ls : Array Slot} {st0 rest : List Value} {A : Nat → Prop} {D : va_G} {K : zk → Prop} {W1 : zk → Nat × va_E} {M : va_W} {tys : List (ClassId × FieldType)}
/-- the law's call of a method of its own -/
theorem zl_call {mc ms : Nat} {S : Type} {post : S → Prop} {v : S → Option Value} {K2 : S → zk → Prop} {W2 : S → zk → Nat × va_E} {arr : Array Value} (hr : va_Run p l e R s m args below meth c H locs cells slots mc ms (F0 m pc ls st0) rest (zQW D K W1 post v K2 W2 H.size arr) (zFr K W1 H.size)) (hH : zHs D K W1 M A H) (hS : va_S A s.heap H locs) (hA : ∀ q : Nat, s.heap.size ≤ q → A q) {cells' slots' : Nat} (hc : cells + mc = cells') (hs : slots + ms = slots')
    (kk : ∀ (u : S) (H1 : Heap) (locs1 : List Loc), post u → zHs D (K2 u) (W2 u) M A H1 → va_S A s.heap H1 locs1 → W p l e R s m args below meth c H1 locs1 cells' slots' Q (F0 m (pc + 3) ls ((v u).toList ++ rest))) : W p l e R s m args below meth c H locs cells slots Q (F0 m pc ls st0) := by
  subst hc
  subst hs
  intro T hT X
  obtain ⟨v', st₀, t, T', L, h0, X', hL, e1, e2, ⟨⟨u, hv, hp, hF1, hI1, hA1⟩, hz, hk⟩, st⟩ := hr T hT X
  cases hv
  rw [h0] at hz hk
  obtain ⟨hF, hI, hKA, hPM, hDM, hXM⟩ := hH
  have hFA : ∀ q, zFr K W1 H.size q → A q := by
    intro q h
    rcases h with ⟨k, h1, h2⟩ | h
    · rw [h2]
      exact hKA k h1
    · exact hA q (Nat.le_trans hS.1 h)
  have hM1 : va_P D vwCl M T'.heap := hPM.kept (fun i q hq => by
    rw [e1]
    refine hk q.1 (hPM i q hq).lt (fun z => ?_)
    rcases z with ⟨k, z1, z2⟩ | z
    · exact hXM k i q z1 hq z2.symm
    · have := (hPM i q hq).lt
      omega)
  have hX1 : ∀ (k : zk) (i : Nat) (q : Nat × va_E), K2 u k → M[i]? = some q → (W2 u k).1 ≠ q.1 := fun k i q g1 g2 g3 => by
    rcases hA1 k g1 with ⟨k', z1, z2⟩ | z
    · exact hXM k' i q z1 g2 (by rw [← z2]; exact g3)
    · have := (hPM i q g2).lt
      rw [g3] at z
      omega
  obtain ⟨t2, a1, b1⟩ := kk u T'.heap (locs ++ L) hp ⟨by rw [e1]; exact hF1, hI1, fun k h => hFA _ (hA1 k h), hM1, hDM, hX1⟩ ⟨Nat.le_trans hS.1 (by rw [e1]; exact hz), fun q h1 h2 => by rw [e1, hk q (Nat.lt_of_lt_of_le h1 hS.1) (fun z => h2 (hFA q z))]; exact hS.2.1 q h1 h2, fun q hq => by
      rcases List.mem_append.mp hq with h | h
      · exact hS.2.2 q h
      · exact hFA _ (hL q h)⟩ T' rfl X'
  exact ⟨t2, st t2 a1, b1⟩
/-- the law's call of the reference -/
theorem zl_mcall {mc ms : Nat} {S : Type} {post : S → Prop} {vo : S → Option Value} {w1 : S → va_W} {arr : Array Value} (hr : va_Run p l e R s m args below meth c H locs cells slots mc ms (F0 m pc ls st0) rest (zQ D post vo w1 (va_A M H.size) arr) (va_A M H.size)) (hH : zHs D K W1 M A H) (hS : va_S A s.heap H locs) (hA : ∀ q : Nat, s.heap.size ≤ q → A q) {cells' slots' : Nat} (hc : cells + mc = cells') (hs : slots + ms = slots')
    (kk : ∀ (u : S) (H1 : Heap) (locs1 : List Loc), post u → zHs D K W1 (w1 u) A H1 → va_S A s.heap H1 locs1 → W p l e R s m args below meth c H1 locs1 cells' slots' Q (F0 m (pc + 3) ls ((vo u).toList ++ rest))) : W p l e R s m args below meth c H locs cells slots Q (F0 m pc ls st0) := by
  subst hc
  subst hs
  intro T hT X
  obtain ⟨v', st₀, t, T', L, h0, X', hL, e1, e2, ⟨⟨u, hv, hp, hP1, hD1⟩, hz, hk⟩, st⟩ := hr T hT X
  cases hv
  rw [h0] at hz hk
  obtain ⟨hF, hI, hKA, hPM, hDM, hXM⟩ := hH
  have hMA : ∀ q, va_A M H.size q → A q := by
    intro q h
    rcases h with ⟨k, e, h⟩ | h
    · exact hDM.2 k _ h
    · exact hA q (Nat.le_trans hS.1 h)
  have hn : ∀ k, K k → (W1 k).1 < H.size ∧ ¬ va_A M H.size (W1 k).1 := fun k hk9 => by
    have h1 := (hF k hk9).lt
    refine ⟨h1, fun z => ?_⟩
    rcases z with ⟨i, e, z⟩ | z
    · exact hXM k i _ hk9 z rfl
    · omega
  obtain ⟨t2, a1, b1⟩ := kk u T'.heap (locs ++ L) hp ⟨fun k h => by rw [e1]; exact (hF k h).kept (hk _ (hn k h).1 (hn k h).2), hI, hKA, by rw [e1]; exact hP1, hD1.weaken (fun _ q _ h => hMA q.1 h), fun k i q g1 g2 g3 => (hn k g1).2 (by rw [g3]; exact hD1.2 i q g2)⟩ ⟨Nat.le_trans hS.1 (by rw [e1]; exact hz), fun q h1 h2 => by rw [e1, hk q (Nat.lt_of_lt_of_le h1 hS.1) (fun z => h2 (hMA q z))]; exact hS.2.1 q h1 h2, fun q hq => by
      rcases List.mem_append.mp hq with h | h
      · exact hS.2.2 q h
      · exact hMA _ (hL q h)⟩ T' rfl X'
  exact ⟨t2, st t2 a1, b1⟩
/-- a call that changes nothing -/
theorem zl_ro {mc ms : Nat} {vo : Option Value} {arr : Array Value} (hr : va_Run p l e R s m args below meth c H locs cells slots mc ms (F0 m pc ls st0) rest (zQ D (S := Unit) (fun _ => True) (fun _ => vo) (fun _ => []) (va_A [] H.size) arr) (va_A [] H.size)) (hH : zHs D K W1 M A H) (hS : va_S A s.heap H locs) (hA : ∀ q : Nat, s.heap.size ≤ q → A q) {cells' slots' : Nat} (hc : cells + mc = cells') (hs : slots + ms = slots')
    (kk : ∀ (H1 : Heap) (locs1 : List Loc), zHs D K W1 M A H1 → va_S A s.heap H1 locs1 → W p l e R s m args below meth c H1 locs1 cells' slots' Q (F0 m (pc + 3) ls (vo.toList ++ rest))) : W p l e R s m args below meth c H locs cells slots Q (F0 m pc ls st0) := by
  subst hc
  subst hs
  intro T hT X
  obtain ⟨v', st₀, t, T', L, h0, X', hL, e1, e2, ⟨⟨u, hv, -, -, -⟩, hz, hk⟩, st⟩ := hr T hT X
  cases hv
  rw [h0] at hz hk
  obtain ⟨hF, hI, hKA, hPM, hDM, hXM⟩ := hH
  have hkeep : ∀ q : Nat, q < H.size → T'.heap[q]? = H[q]? := fun q h1 => by
    rw [e1]
    refine hk q h1 (fun h => ?_)
    rcases h with ⟨k2, e3, h2⟩ | h2
    · simp at h2
    · omega
  have hAf : ∀ q, va_A [] H.size q → A q := fun q h => by
    rcases h with ⟨k2, e3, h2⟩ | h2
    · simp at h2
    · exact hA q (Nat.le_trans hS.1 h2)
  obtain ⟨t2, a1, b1⟩ := kk T'.heap (locs ++ L) ⟨fun k h => (hF k h).kept (hkeep _ (hF k h).lt), hI, hKA, hPM.kept (fun i q hq => hkeep q.1 (hPM i q hq).lt), hDM, hXM⟩ ⟨Nat.le_trans hS.1 (by rw [e1]; exact hz), fun q h1 h2 => by rw [hkeep q (Nat.lt_of_lt_of_le h1 hS.1)]; exact hS.2.1 q h1 h2, fun q hq => by
      rcases List.mem_append.mp hq with h | h
      · exact hS.2.2 q h
      · exact hAf _ (hL q h)⟩ T' rfl X'
  exact ⟨t2, st t2 a1, b1⟩
theorem zl_preW {av : List Value} (hH : zHs D K W1 M A H) (hK : va_K D vwCl tys s) (hXT : zXT A s) (hS : va_S A s.heap H locs) (hA : ∀ q : Nat, s.heap.size ≤ q → A q) : PreS s H (va_Pc av (zPreW A D tys K W1 H.size)) av :=
  ⟨zPreW_blind, fun U hU hW => ⟨rfl, by rw [hU], by rw [hU]; exact hH.1, va_K.moved hW.alike hK, hH.2.1, hXT.go hS (fun _ h => h) hU hW, fun q h => by
    rcases h with ⟨k, h1, h2⟩ | h
    · rw [h2]
      exact hH.2.2.1 k h1
    · exact hA q (Nat.le_trans hS.1 h)⟩⟩
/-- the law's script -/
theorem z_sld (hx : p.tables.exec = Jvm.exec) (hb : c.code = cc) {b L : Nat} {xs : Nat → Int32} (hX : va_X b L xs s s.heap) (hbl : b < s.heap.size) (hbA : ¬ A b) (hS : va_S A s.heap H locs) {i : Int} (N : Nat) (hi : i = (N : Int)) (hN : N < L) (hL : L ≤ 3072) (hdg : decode cc pc = .ok (.iaload, 1))
    (kk : W p l e R s m args below meth c H locs cells slots Q (F0 m (pc + 1) ls (.int (zI (xs N).toInt) :: rest))) : W p l e R s m args below meth c H locs cells slots Q (F0 m pc ls (.int (zI i) :: .ref b :: rest)) := by
  refine va_sld hx hb hX hbl hbA hS (z_in (by omega) (by omega)) hdg ?_
  have e1 : xs (zI i).toNatClampNeg = zI (xs N).toInt := by
    rw [z_cl (by omega), show i.toNat = N by omega]
    exact zI_of _
  rw [e1]
  exact kk
theorem z_slen (hx : p.tables.exec = Jvm.exec) (hb : c.code = cc) {b L : Nat} {xs : Nat → Int32} (hX : va_X b L xs s s.heap) (hbl : b < s.heap.size) (hbA : ¬ A b) (hS : va_S A s.heap H locs) (hdg : decode cc pc = .ok (.arraylength, 1))
    (kk : W p l e R s m args below meth c H locs cells slots Q (F0 m (pc + 1) ls (.int (zI (L : Int)) :: rest))) : W p l e R s m args below meth c H locs cells slots Q (F0 m pc ls (.ref b :: rest)) := by
  refine va_slen hx hb hX hbl hbA hS hdg ?_
  have e1 : Int32.ofNat L = zI (L : Int) := Int32.ofInt_eq_ofNat.symm
  rw [e1]
  exact kk
theorem z_and15 (hx : p.tables.exec = Jvm.exec) (hb : c.code = cc) {x : Int32} (hdg : decode cc pc = .ok (.iand, 1)) (k : W p l e R s m args below meth c H locs cells slots Q (F0 m (pc + 1) ls (.int (zI (x.toInt % 16)) :: rest))) : W p l e R s m args below meth c H locs cells slots Q (F0 m pc ls (.int (zI 15) :: .int (zI x.toInt) :: rest)) := by
  refine lv_iand hx hb hdg ?_
  have h1 : zI x.toInt &&& zI 15 = zI (x.toInt % 16) := by
    rw [← zI_of x]
    exact zI_and15 x
  rw [h1]
  exact k
end TH
/-- what holds all through the law -/
def zLX (p : Program) (l : Launch) (s : State) (m : MethodId) (meth : Method) (c : Code) (b L : Nat) (xs : Nat → Int32) (D : va_G) (cI cW cP cJ : ClassId) : Prop :=
  p.tables.exec = Jvm.exec ∧ c.code = code ∧ c.maxLocals = 7 ∧ s.vm.findClass RL = some m.cls ∧ (∀ w ∈ wsL_law, w.before #[Value.ref b] s = true) ∧ va_X b L xs s s.heap ∧ b < s.heap.size ∧ L ≤ 3072 ∧ l.stackTraces = false ∧ zXT (fun q => s.heap.size ≤ q) s ∧ va_K D vwCl [(cI, .int), (cW, .object RX3), (cP, .object RX2), (cJ, .long)] s
/-- what holds at the head of the loop -/
def zLI (s : State) (b : Nat) (D : va_G) (cI cW cP cJ : ClassId) (i : Int) (H : Heap) (locs : List Loc) (ls : Array Slot) : Prop :=
  ∃ (ad : zk → Nat) (ar : zk → Int → Int) (md : Nat → Nat) (xe xl xp xz xr xm : Int → Int) (np th : Int) (pg : Int → Option Nat) (o : Nat → Int64), zYI ad ar xl np xp xz pg ∧ zMI xe xl xp xz xr np ∧ zSame ar xe xl ∧ zHs D (zYK np) (zY cI cW cP cJ ad ar xl np xp xz pg o) (zM cI md xe xl xp xz xr xm np th) (fun q => s.heap.size ≤ q) H ∧ va_S (fun q => s.heap.size ≤ q) s.heap H locs ∧ lv_has ls 7 [(0, .ref b), (1, .ref (ad (4, 0))), (2, .ref (md 0)), (3, .ref (ad (18, 0))), (4, .int (zI i))]
theorem zWp_any {cl v v' : Int} {mt : Prop} {c : Int → Int} {ar : zk → Int → Int} {t n t' n' : Int} {val val' : Int → Int} {u : Int × (Nat → Int64) × (Int → Int) × (zk → Int → Int)} (h : cl ≠ 0) (hw : zWp cl v mt c ar t n val u) : zWp cl v' mt c ar t' n' val' u :=
  ⟨hw.1, fun q => absurd q h, fun q => absurd q.1 h, fun q => hw.2.2.2.1 q, fun r _ => hw.2.2.2.2.1 r (fun q => absurd q.1 h), hw.2.2.2.2.2⟩
theorem z_invP {ad : zk → Nat} {ar : zk → Int → Int} {xe xl xp xz xr : Int → Int} {np p n : Int} {pg : Int → Option Nat} {h w : Nat} {pw : Int → Int} (hY : zYI ad ar xl np xp xz pg) (hM : zMI xe xl xp xz xr np) (hag : zSame ar xe xl) (hpn : zPN p n) (h8 : np < 8) (hpw : zPW p n pw) : zYI (zAD ad np h w) (zUA ar (3, np) pw) xl (np + 1) (zU xp np p) (zU xz np n) (zV pg np (some h)) ∧ zMI xe xl (zU xp np p) (zU xz np n) (zU xr np (zRoot p n)) (np + 1) ∧ zSame (zUA ar (3, np) pw) xe xl := by
  obtain ⟨y1, y2, y3, y4⟩ := hY
  obtain ⟨n1, n2, n3, n4⟩ := hM
  have e1 : ∀ r, zUA ar (3, np) pw (1, r) = ar (1, r) := fun r => if_neg (fun q => absurd (congrArg Prod.fst q) (by show ¬ ((1 : Nat) = 3); decide))
  refine ⟨⟨by omega, y2, fun r hr => by rw [e1 r]; exact y3 r hr, fun i hi => ?_⟩, ⟨by omega, n2, n3, fun i hi => ?_⟩, fun r hr => ?_⟩
  · by_cases e : i = np
    · subst e
      rw [zU_s, zU_s, zV_s, zAD_2, show zUA ar (3, i) pw (3, i) = pw from if_pos rfl]
      exact ⟨hpn, hpw, rfl⟩
    · rw [zU_n _ _ e, zU_n _ _ e, zV_n _ _ e, zAD_l e, show zUA ar (3, np) pw (3, i) = ar (3, i) from if_neg (fun q => e (congrArg Prod.snd q))]
      exact y4 i (by omega)
  · by_cases e : i = np
    · subst e
      rw [zU_s, zU_s, zU_s]
      exact ⟨hpn, rfl⟩
    · rw [zU_n _ _ e, zU_n _ _ e, zU_n _ _ e]
      exact n4 i (by omega)
  · show rowAt (zUA ar (3, np) pw (1, r)) (xl r) = _
    rw [e1 r]
    exact hag r hr
/-- the exceptions' numbers are small -/
theorem kRow_r {a : Int} : 0 ≤ kRow a ∧ kRow a ≤ 3 := by unfold kRow; (repeat' split) <;> omega
theorem kPl_r {np i : Int} : 0 ≤ kPl np i ∧ kPl np i ≤ 3 := by unfold kPl; (repeat' split) <;> omega
theorem kAppend_r {c : Int → Int} {a x : Int} : 0 ≤ kAppend c a x ∧ kAppend c a x ≤ 3 := by unfold kAppend; (repeat' split) <;> omega
theorem kCopy_r {a t : Int} : 0 ≤ kCopy a t ∧ kCopy a t ≤ 3 := by unfold kCopy; (repeat' split) <;> omega
theorem kAt_r {c : Int → Int} {a x : Int} : 0 ≤ kAt c a x ∧ kAt c a x ≤ 3 := by unfold kAt; (repeat' split) <;> omega
theorem kPlan_r {np p n : Int} : 0 ≤ kPlan np p n ∧ kPlan np p n ≤ 3 := by unfold kPlan; (repeat' split) <;> decide
theorem kTr_r {c : Int → Int} {np : Int} {pn : Int → Int} {i a w : Int} : 0 ≤ kTr c np pn i a w ∧ kTr c np pn i a w ≤ 3 := by unfold kTr; (repeat' split) <;> decide
theorem kSum_r {c : Int → Int} {np : Int} {pn : Int → Int} {i a x : Int} : 0 ≤ kSum c np pn i a x ∧ kSum c np pn i a x ≤ 3 := by unfold kSum; (repeat' split) <;> decide
theorem kConv_r {c : Int → Int} {np : Int} {pn : Int → Int} {i a b t : Int} : 0 ≤ kConv c np pn i a b t ∧ kConv c np pn i a b t ≤ 3 := by unfold kConv; (repeat' split) <;> decide
theorem kConvd_r {c : Int → Int} {np : Int} {pn : Int → Int} {i a b x : Int} : 0 ≤ kConvd c np pn i a b x ∧ kConvd c np pn i a b x ≤ 3 := by unfold kConvd; (repeat' split) <;> decide
theorem kFilter_r {G : Int → Int → Int} {c : Int → Int} {a b t bl : Int} : 0 ≤ kFilter G c a b t bl ∧ kFilter G c a b t bl ≤ 3 := by unfold kFilter; (repeat' split) <;> decide
theorem kMult_r {G : Int → Int → Int} {c : Int → Int} {a b t : Int} : 0 ≤ kMult G c a b t ∧ kMult G c a b t ≤ 3 := by unfold kMult; (repeat' split) <;> decide
set_option maxHeartbeats 1000000 in
set_option maxRecDepth 4000 in
theorem M_plans (l : Launch) (D : va_G) (cI : ClassId) (md : Nat → Nat) (xe xl xp xz xr xm : Int → Int) (np th : Int) : zC l yX6_plans wsX6_plans zRM D [] (zM cI md xe xl xp xz xr xm np th) [] [.ref (md 0)] (S := Unit) (fun _ => True) (fun _ => some (.int (zI np))) (fun _ => zM cI md xe xl xp xz xr xm np 0) := by
  have hc := c_X6_plans l D (md 0) (md 1) (md 2) (md 3) (md 4) (md 5) (md 6) np th
  refine z_liftL (wr := [(md 1, .inl (cI, 256, .inl (zA xe))), (md 2, .inl (cI, 4, .inl (zA xl))), (md 3, .inl (cI, 8, .inl (zA xp))), (md 4, .inl (cI, 8, .inl (zA xz))), (md 5, .inl (cI, 8, .inl (zA xr))), (md 6, .inl (cI, 64, .inl (zA xm)))]) hc ?_ ?_ ?_ ?_ (zM cI md xe xl xp xz xr xm np th) [0] [] [1, 2, 3, 4, 5, 6] [6, 0, 1, 2, 3, 4, 5] ?_ ?_ ?_ ?_ ?_ ?_ ?_ _ _ _ (fun _ => ()) ?_ ?_ ?_ ?_
  · exact Nat.le_of_ble_eq_true rfl
  · exact Nat.le_of_ble_eq_true rfl
  · rfl
  · rfl
  · rfl
  · rfl
  · decide
  · rfl
  · rfl
  · decide
  · rfl
  · exact fun u hu => ⟨trivial, rfl, rfl⟩
  · rfl
  · rfl
  · exact fun u => rfl
end LK
