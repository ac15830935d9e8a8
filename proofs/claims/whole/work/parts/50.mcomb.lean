section MC
theorem z_room {l : Launch} {y : MethodName} {ws : List Cond} {rm rm' : Room} {Pc : Array Value → State → Prop} {Qc : Array Value → State → Outcome → State → Prop} {mc ms : Nat} {free : Addr → Prop} (h1 : rm.frames ≤ rm'.frames) (h2 : rm.cells ≤ rm'.cells) (h3 : rm.slots ≤ rm'.slots) (h4 : rm.locals ≤ rm'.locals) (hM : Met l y ws rm Pc Qc mc ms free) : Met l y ws rm' Pc Qc mc ms free := by
  intro p e ha hc hk s m args below hf happ hP hK
  refine hM p e ha hc hk s m args below hf ?_ hP hK
  unfold Spec.appliesLoose at happ ⊢
  rw [hf] at happ ⊢
  simp only [Bool.and_eq_true] at happ ⊢
  obtain ⟨⟨⟨⟨⟨⟨⟨a1, a2⟩, a3⟩, a4⟩, a5⟩, a6⟩, a7⟩, a8⟩ := happ
  refine ⟨⟨⟨⟨⟨⟨⟨a1, a2⟩, a3⟩, a4⟩, a5⟩, a6⟩, ?_⟩, a8⟩
  have a7 : s.hasRoom e.platform rm' = true := a7
  show s.hasRoom e.platform rm = true
  simp only [State.hasRoom, Bool.and_eq_true, decide_eq_true_eq] at a7 ⊢
  obtain ⟨⟨⟨⟨b1, b2, b3, b4, b5, b6⟩, b7⟩, b8⟩, b9⟩ := a7
  exact ⟨⟨⟨⟨by omega, by omega, by omega, by omega, by omega, b6⟩, by omega⟩, by omega⟩, b9⟩
/-- a contract over some of the cells, said of them all -/
theorem z_liftL {l : Launch} {y : MethodName} {ws : List Cond} {rm rm' : Room} {D : va_G} {tys : List (ClassId × FieldType)} {wc rc wr : va_W} {av : List Value} {S S' : Type} {post : S → Prop} {v : S → Option Value} {w1 : S → va_W} (hC : zC l y ws rm D tys wc rc av post v w1) (h1 : rm.frames ≤ rm'.frames) (h4 : rm.locals ≤ rm'.locals) (h2 : rm.cells = rm'.cells) (h3 : rm.slots = rm'.slots)
    (M : va_W) (isC isR isQ perm : List Nat) (hC1 : isC.map (fun i => M[i]?) = wc.map some) (hR1 : isR.filterMap (fun i => M[i]?) = rc) (hdis : ∀ i ∈ isR, i ∉ isC) (hQ : isQ.map (fun i => M[i]?) = wr.map some) (hn : va_nd isQ = true) (hdisQ : ∀ i ∈ isQ, i ∉ isC) (hpn : va_nd perm = true) (post' : S' → Prop) (v' : S' → Option Value) (w1' : S' → va_W) (f : S → S') (hp : ∀ u, post u → post' (f u) ∧ v u = v' (f u) ∧ perm.filterMap (fun i => (wr ++ w1 u)[i]?) = w1' (f u))
    (hC2 : isC.filterMap (fun i => M[i]?) = wc) (hnC : va_nd isC = true) (hpl : ∀ u, (perm.map (fun i => (wr ++ w1 u)[i]?)) = (w1' (f u)).map some) : zC l y ws rm' D tys M [] av post' v' w1' := by
  intro sz
  refine z_room h1 (Nat.le_of_eq h2) (Nat.le_of_eq h3) h4 ?_
  intro p e ha hc hk s m args below hf happ hP hK
  obtain ⟨hav, hsz, hPM, hKM, hDM, hRM, hXM⟩ := hP
  have hPc : va_P D vwCl wc s.heap := hPM.sub isC hC2
  have hPr : va_P D vwCl rc s.heap := hPM.sub isR hR1
  have hDc : va_D (fun _ => True) wc := hDM.sub isC hnC hC1
  have hX : ∀ (i j : Nat) (x y : Nat × va_E), wc[i]? = some x → rc[j]? = some y → x.1 ≠ y.1 := by
    intro i j x y hx hy he
    have g1 : (isC.map (fun i => M[i]?))[i]? = some (some x) := by rw [hC1, List.getElem?_map, hx]; rfl
    rw [List.getElem?_map] at g1
    cases hi : isC[i]? with
    | none => rw [hi] at g1; cases g1
    | some i' =>
      rw [hi] at g1
      have g2 : M[i']? = some x := Option.some.inj g1
      rw [← hR1] at hy
      obtain ⟨j', hj', hj2⟩ := List.mem_filterMap.mp (List.mem_of_getElem? hy)
      have g3 := hDM.1 i' j' x y g2 hj2 he
      subst g3
      exact hdis i' hj' (List.mem_of_getElem? hi)
  obtain ⟨n, o, k1, k2, k3, ⟨⟨u, ho, hpu, hP1, hD1⟩, hF⟩, L, hL1, hL2⟩ := hC sz p e ha hc hk s m args below hf happ ⟨hav, hsz, hPc, hKM, hDc, hPr, hX⟩ trivial
  obtain ⟨g1, g2, g3⟩ := hp u hpu
  subst hsz
  have hFc : ∀ q, va_A wc s.heap.size q → va_A M s.heap.size q := va_free (A0 := va_A M s.heap.size) (H0 := s.heap) (H := s.heap) (locs := []) hDM.self va_S.rf (fun q h => Or.inr h) isC hC1
  obtain ⟨j1, j2⟩ := va_join (A0 := va_A M s.heap.size) hPM hDM.self isC isQ hC1 hQ hn hdisQ hF.2 hFc hP1 hD1
  refine ⟨n, o, k1, k2, k3, ⟨⟨f u, by rw [← g2]; exact ho, g1, j1.sub perm g3, j2.sub perm hpn (hpl u)⟩, hF.1, fun q q1 q2 => hF.2 q q1 (fun z => q2 (hFc q z))⟩, L, ?_, fun q h => hFc _ (hL2 q h)⟩
  rw [← h2, ← h3]
  exact hL1
/-- the reference's cells -/
def zM (cI : ClassId) (md : Nat → Nat) (xe xl xp xz xr xm : Int → Int) (np th : Int) : va_W := [(md 0, .inr (5, [.ref (md 1), .ref (md 2), .ref (md 3), .ref (md 4), .ref (md 5), .int (zI np), .ref (md 6), .int (zI th)])), (md 1, .inl (cI, 256, .inl (zA xe))), (md 2, .inl (cI, 4, .inl (zA xl))), (md 3, .inl (cI, 8, .inl (zA xp))), (md 4, .inl (cI, 8, .inl (zA xz))), (md 5, .inl (cI, 8, .inl (zA xr))), (md 6, .inl (cI, 64, .inl (zA xm)))]
abbrev zRM : Room := { frames := 6, cells := 0, slots := 0, locals := 200 }
def zGm (xe xl : Int → Int) (r : Int) : Int → Int := rowAt (eRow xe r) (xl r)
def zMI (xe xl xp xz xr : Int → Int) (np : Int) : Prop := (0 ≤ np ∧ np ≤ 8) ∧ (∀ r, 0 ≤ r ∧ r < 4 → 0 ≤ xl r ∧ xl r ≤ 64) ∧ (∀ k, 0 ≤ k → k < 256 → -1000000 ≤ xe k ∧ xe k ≤ 1000000) ∧ ∀ i, 0 ≤ i ∧ i < np → zPN (xp i) (xz i) ∧ xr i = zRoot (xp i) (xz i)
def zMp (cl v : Int) (mt : Prop) (xe xl : Int → Int) (t n : Int) (val : Int → Int) : Int × (Int → Int) × (Int → Int) × (Int → Int) → Prop := fun u =>
  (cl = 0 → u.1 = v) ∧ ((cl = 0 ∧ mt) → u.2.2.1 = zU xl t n ∧ (∀ k, 0 ≤ k → k < n → u.2.1 (64 * t + k) = val k) ∧ ∀ x, x < 64 * t ∨ 64 * t + n ≤ x → u.2.1 x = xe x) ∧ (¬ (cl = 0 ∧ mt) → u.2.1 = xe ∧ u.2.2.1 = xl)
theorem zMp_err {cl v : Int} {mt : Prop} {xe xl xm : Int → Int} {t n : Int} {val : Int → Int} (h : cl ≠ 0) : zMp cl v mt xe xl t n val (0, xe, xl, xm) := ⟨fun q => absurd q h, fun q => absurd q.1 h, fun _ => ⟨rfl, rfl⟩⟩
theorem zMp_ro {v : Int} {xe xl xm : Int → Int} {t n : Int} {val : Int → Int} : zMp 0 v False xe xl t n val (v, xe, xl, xm) := ⟨fun _ => rfl, fun q => q.2.elim, fun _ => ⟨rfl, rfl⟩⟩
theorem zMp_mu {v b : Int} {xe xl xe' xl' xm : Int → Int} {t n : Int} {val : Int → Int} (hb : b = v) (hl : xl' = zU xl t n) (h1 : ∀ k, 0 ≤ k → k < n → xe' (64 * t + k) = val k) (h2 : ∀ x, x < 64 * t ∨ 64 * t + n ≤ x → xe' x = xe x) : zMp 0 v True xe xl t n val (b, xe', xl', xm) := ⟨fun _ => hb, fun _ => ⟨hl, h1, h2⟩, fun q => (q ⟨rfl, trivial⟩).elim⟩
theorem zWb_gm {xe c : Int → Int} {lo hi a : Int} (hc : 0 ≤ c a) : zWb (zGm xe c) c lo hi a = true ↔ ∀ k, 0 ≤ k → k < c a → lo ≤ eRow xe a k ∧ eRow xe a k ≤ hi := zWb_iff (g := fun r => eRow xe r) hc
def zMpp (cl np p n : Int) (xp xz xr : Int → Int) : Int × (Int → Int) × (Int → Int) × (Int → Int) × Int → Prop := fun u => (cl ≠ 0 → u.2 = (xp, xz, xr, np)) ∧ (cl = 0 → u.1 = np ∧ u.2 = (zU xp np p, zU xz np n, zU xr np (zRoot p n), np + 1))
set_option maxHeartbeats 1000000 in
set_option maxRecDepth 4000 in
theorem M_append (l : Launch) (D : va_G) (cI : ClassId) (md : Nat → Nat) (xe xl xp xz xr xm : Int → Int) (np th : Int) (a : Int) (x : Int) (hMI : zMI xe xl xp xz xr np) (ha_a : -2147483648 ≤ a ∧ a ≤ 2147483647) (ha_x : -2147483648 ≤ x ∧ x ≤ 2147483647) : zC l yX6_append wsX6_append zRM D [(cI, .int)] (zM cI md xe xl xp xz xr xm np th) [] [.ref (md 0), .int (zI a), .int (zI x)] (S := Int × (Int → Int) × (Int → Int) × (Int → Int)) (zMp (kAppend xl a x) (xl a + 1) True xe xl a (xl a + 1) (zU (zGm xe xl a) (xl a) x)) (fun u => some (.int (zI u.1))) (fun u => zM cI md u.2.1 u.2.2.1 xp xz xr u.2.2.2 np (kAppend xl a x)) := by
  obtain ⟨hnp, hxl, hxe, hpl⟩ := hMI
  by_cases h1 : 0 ≤ a ∧ a < 4
  rotate_left
  · have ek : kAppend xl a x = 1 := by unfold kAppend; rw [if_pos h1]
    rw [ek]
    have hc := c_X6_append_1 l D cI (md 0) (md 1) (md 2) (md 3) (md 4) (md 5) (md 6) np th a x (by first | omega | assumption) (by first | omega | assumption) (by first | omega | assumption)
    refine z_liftL (wr := [(md 1, .inl (cI, 256, .inl (zA xe))), (md 2, .inl (cI, 4, .inl (zA xl))), (md 3, .inl (cI, 8, .inl (zA xp))), (md 4, .inl (cI, 8, .inl (zA xz))), (md 5, .inl (cI, 8, .inl (zA xr))), (md 6, .inl (cI, 64, .inl (zA xm)))]) hc ?_ ?_ ?_ ?_ (zM cI md xe xl xp xz xr xm np th) [0] [] [1, 2, 3, 4, 5, 6] [6, 0, 1, 2, 3, 4, 5] ?_ ?_ ?_ ?_ ?_ ?_ ?_ _ _ _ (fun _ => (0, xe, xl, xm)) ?_ ?_ ?_ ?_
    · exact Nat.le_of_ble_eq_true rfl
    · exact Nat.le_of_ble_eq_true rfl
    · rfl
    · rfl
    · rfl
    · rfl
    · decide
    · rfl
    · rfl
    · decide
    · rfl
    · exact fun u hu => ⟨zMp_err (by decide), rfl, rfl⟩
    · rfl
    · rfl
    · exact fun u => rfl
  have hla := hxl a h1
  by_cases h2 : -9999 ≤ x ∧ x ≤ 9999
  rotate_left
  · have ek : kAppend xl a x = 2 := by unfold kAppend; rw [if_neg (not_not_intro h1), if_pos h2]
    rw [ek]
    have hc := c_X6_append_2 l D cI (md 0) (md 1) (md 2) (md 3) (md 4) (md 5) (md 6) np th a x (by first | omega | assumption) (by first | omega | assumption) (by first | omega | assumption) (by first | omega | assumption)
    refine z_liftL (wr := [(md 1, .inl (cI, 256, .inl (zA xe))), (md 2, .inl (cI, 4, .inl (zA xl))), (md 3, .inl (cI, 8, .inl (zA xp))), (md 4, .inl (cI, 8, .inl (zA xz))), (md 5, .inl (cI, 8, .inl (zA xr))), (md 6, .inl (cI, 64, .inl (zA xm)))]) hc ?_ ?_ ?_ ?_ (zM cI md xe xl xp xz xr xm np th) [0] [] [1, 2, 3, 4, 5, 6] [6, 0, 1, 2, 3, 4, 5] ?_ ?_ ?_ ?_ ?_ ?_ ?_ _ _ _ (fun _ => (0, xe, xl, xm)) ?_ ?_ ?_ ?_
    · exact Nat.le_of_ble_eq_true rfl
    · exact Nat.le_of_ble_eq_true rfl
    · rfl
    · rfl
    · rfl
    · rfl
    · decide
    · rfl
    · rfl
    · decide
    · rfl
    · exact fun u hu => ⟨zMp_err (by decide), rfl, rfl⟩
    · rfl
    · rfl
    · exact fun u => rfl
  by_cases h3 : xl a = 64
  · have ek : kAppend xl a x = 3 := by unfold kAppend; rw [if_neg (not_not_intro h1), if_neg (not_not_intro h2), if_pos h3]
    rw [ek]
    have hc := c_X6_append_3 l D cI (md 0) (md 1) (md 2) (md 3) (md 4) (md 5) (md 6) np th xl a x (by first | omega | assumption) (by first | omega | assumption) (by first | omega | assumption) (by first | omega | assumption) (by first | omega | assumption)
    refine z_liftL (wr := [(md 1, .inl (cI, 256, .inl (zA xe))), (md 2, .inl (cI, 4, .inl (zA xl))), (md 3, .inl (cI, 8, .inl (zA xp))), (md 4, .inl (cI, 8, .inl (zA xz))), (md 5, .inl (cI, 8, .inl (zA xr))), (md 6, .inl (cI, 64, .inl (zA xm)))]) hc ?_ ?_ ?_ ?_ (zM cI md xe xl xp xz xr xm np th) [0] [2] [1, 2, 3, 4, 5, 6] [6, 0, 1, 2, 3, 4, 5] ?_ ?_ ?_ ?_ ?_ ?_ ?_ _ _ _ (fun _ => (0, xe, xl, xm)) ?_ ?_ ?_ ?_
    · exact Nat.le_of_ble_eq_true rfl
    · exact Nat.le_of_ble_eq_true rfl
    · rfl
    · rfl
    · rfl
    · rfl
    · decide
    · rfl
    · rfl
    · decide
    · rfl
    · exact fun u hu => ⟨zMp_err (by decide), rfl, rfl⟩
    · rfl
    · rfl
    · exact fun u => rfl
  have ek : kAppend xl a x = 0 := by unfold kAppend; rw [if_neg (not_not_intro h1), if_neg (not_not_intro h2), if_neg h3]
  rw [ek]
  have hc := c_X6_append_ok l D cI (md 0) (md 1) (md 2) (md 3) (md 4) (md 5) (md 6) np th xe xl a x (by first | omega | assumption) (by first | omega | assumption) (by first | omega | assumption) (by first | omega | assumption) (by first | omega | assumption)
  refine z_liftL (wr := [(md 3, .inl (cI, 8, .inl (zA xp))), (md 4, .inl (cI, 8, .inl (zA xz))), (md 5, .inl (cI, 8, .inl (zA xr))), (md 6, .inl (cI, 64, .inl (zA xm)))]) hc ?_ ?_ ?_ ?_ (zM cI md xe xl xp xz xr xm np th) [0, 1, 2] [] [3, 4, 5, 6] [4, 5, 6, 0, 1, 2, 3] ?_ ?_ ?_ ?_ ?_ ?_ ?_ _ _ _ (fun _ => (xl a + 1, zU xe (64 * a + xl a) x, zU xl a (xl a + 1), xm)) ?_ ?_ ?_ ?_
  · exact Nat.le_of_ble_eq_true rfl
  · exact Nat.le_of_ble_eq_true rfl
  · rfl
  · rfl
  · rfl
  · rfl
  · decide
  · rfl
  · rfl
  · decide
  · rfl
  · exact fun u hu => ⟨zMp_mu rfl rfl (fun k q1 q2 => by
      show zU xe (64 * a + xl a) x (64 * a + k) = _
      unfold zU
      by_cases e : k = xl a
      · rw [if_pos (by omega), if_pos e]
      · rw [if_neg (by omega), if_neg e]; exact (rowAt_in (g := eRow xe a) ⟨q1, by omega⟩).symm) (fun y q => zU_n _ _ (by omega)), rfl, rfl⟩
  · rfl
  · rfl
  · exact fun u => rfl

set_option maxHeartbeats 1000000 in
set_option maxRecDepth 4000 in
theorem M_clear (l : Launch) (D : va_G) (cI : ClassId) (md : Nat → Nat) (xe xl xp xz xr xm : Int → Int) (np th : Int) (a : Int) (hMI : zMI xe xl xp xz xr np) (ha_a : -2147483648 ≤ a ∧ a ≤ 2147483647) : zC l yX6_clear wsX6_clear zRM D [(cI, .int)] (zM cI md xe xl xp xz xr xm np th) [] [.ref (md 0), .int (zI a)] (S := Int × (Int → Int) × (Int → Int) × (Int → Int)) (zMp (kRow a) (xl a) True xe xl a 0 (fun _ => 0)) (fun u => some (.int (zI u.1))) (fun u => zM cI md u.2.1 u.2.2.1 xp xz xr u.2.2.2 np (kRow a)) := by
  obtain ⟨hnp, hxl, hxe, hpl⟩ := hMI
  by_cases h1 : 0 ≤ a ∧ a < 4
  rotate_left
  · have ek : kRow a = 1 := by unfold kRow; rw [if_pos h1]
    rw [ek]
    have hc := c_X6_clear_1 l D cI (md 0) (md 1) (md 2) (md 3) (md 4) (md 5) (md 6) np th a (by first | omega | assumption) (by first | omega | assumption)
    refine z_liftL (wr := [(md 1, .inl (cI, 256, .inl (zA xe))), (md 2, .inl (cI, 4, .inl (zA xl))), (md 3, .inl (cI, 8, .inl (zA xp))), (md 4, .inl (cI, 8, .inl (zA xz))), (md 5, .inl (cI, 8, .inl (zA xr))), (md 6, .inl (cI, 64, .inl (zA xm)))]) hc ?_ ?_ ?_ ?_ (zM cI md xe xl xp xz xr xm np th) [0] [] [1, 2, 3, 4, 5, 6] [6, 0, 1, 2, 3, 4, 5] ?_ ?_ ?_ ?_ ?_ ?_ ?_ _ _ _ (fun _ => (0, xe, xl, xm)) ?_ ?_ ?_ ?_
    · exact Nat.le_of_ble_eq_true rfl
    · exact Nat.le_of_ble_eq_true rfl
    · rfl
    · rfl
    · rfl
    · rfl
    · decide
    · rfl
    · rfl
    · decide
    · rfl
    · exact fun u hu => ⟨zMp_err (by decide), rfl, rfl⟩
    · rfl
    · rfl
    · exact fun u => rfl
  have hla := hxl a h1
  have ek : kRow a = 0 := by unfold kRow; rw [if_neg (not_not_intro h1)]
  rw [ek]
  have hc := c_X6_clear_ok l D cI (md 0) (md 1) (md 2) (md 3) (md 4) (md 5) (md 6) np th xl a (by first | omega | assumption) (by first | omega | assumption)
  refine z_liftL (wr := [(md 1, .inl (cI, 256, .inl (zA xe))), (md 3, .inl (cI, 8, .inl (zA xp))), (md 4, .inl (cI, 8, .inl (zA xz))), (md 5, .inl (cI, 8, .inl (zA xr))), (md 6, .inl (cI, 64, .inl (zA xm)))]) hc ?_ ?_ ?_ ?_ (zM cI md xe xl xp xz xr xm np th) [0, 2] [] [1, 3, 4, 5, 6] [5, 0, 6, 1, 2, 3, 4] ?_ ?_ ?_ ?_ ?_ ?_ ?_ _ _ _ (fun _ => (xl a, xe, zU xl a 0, xm)) ?_ ?_ ?_ ?_
  · exact Nat.le_of_ble_eq_true rfl
  · exact Nat.le_of_ble_eq_true rfl
  · rfl
  · rfl
  · rfl
  · rfl
  · decide
  · rfl
  · rfl
  · decide
  · rfl
  · exact fun u hu => ⟨zMp_mu rfl rfl (fun k q1 q2 => absurd q2 (by omega)) (fun y q => rfl), rfl, rfl⟩
  · rfl
  · rfl
  · exact fun u => rfl

set_option maxHeartbeats 1000000 in
set_option maxRecDepth 4000 in
theorem M_copy (l : Launch) (D : va_G) (cI : ClassId) (md : Nat → Nat) (xe xl xp xz xr xm : Int → Int) (np th : Int) (a : Int) (t : Int) (hMI : zMI xe xl xp xz xr np) (ha_a : -2147483648 ≤ a ∧ a ≤ 2147483647) (ha_t : -2147483648 ≤ t ∧ t ≤ 2147483647) : zC l yX6_copy wsX6_copy zRM D [(cI, .int)] (zM cI md xe xl xp xz xr xm np th) [] [.ref (md 0), .int (zI a), .int (zI t)] (S := Int × (Int → Int) × (Int → Int) × (Int → Int)) (zMp (kCopy a t) (xl a) True xe xl t (xl a) (zGm xe xl a)) (fun u => some (.int (zI u.1))) (fun u => zM cI md u.2.1 u.2.2.1 xp xz xr u.2.2.2 np (kCopy a t)) := by
  obtain ⟨hnp, hxl, hxe, hpl⟩ := hMI
  by_cases h1 : 0 ≤ a ∧ a < 4
  rotate_left
  · have ek : kCopy a t = 1 := by unfold kCopy; rw [if_pos h1]
    rw [ek]
    have hc := c_X6_copy_1a l D cI (md 0) (md 1) (md 2) (md 3) (md 4) (md 5) (md 6) np th a t (by first | omega | assumption) (by first | omega | assumption) (by first | omega | assumption)
    refine z_liftL (wr := [(md 1, .inl (cI, 256, .inl (zA xe))), (md 2, .inl (cI, 4, .inl (zA xl))), (md 3, .inl (cI, 8, .inl (zA xp))), (md 4, .inl (cI, 8, .inl (zA xz))), (md 5, .inl (cI, 8, .inl (zA xr))), (md 6, .inl (cI, 64, .inl (zA xm)))]) hc ?_ ?_ ?_ ?_ (zM cI md xe xl xp xz xr xm np th) [0] [] [1, 2, 3, 4, 5, 6] [6, 0, 1, 2, 3, 4, 5] ?_ ?_ ?_ ?_ ?_ ?_ ?_ _ _ _ (fun _ => (0, xe, xl, xm)) ?_ ?_ ?_ ?_
    · exact Nat.le_of_ble_eq_true rfl
    · exact Nat.le_of_ble_eq_true rfl
    · rfl
    · rfl
    · rfl
    · rfl
    · decide
    · rfl
    · rfl
    · decide
    · rfl
    · exact fun u hu => ⟨zMp_err (by decide), rfl, rfl⟩
    · rfl
    · rfl
    · exact fun u => rfl
  have hla := hxl a h1
  by_cases h2 : 0 ≤ t ∧ t < 4
  rotate_left
  · have ek : kCopy a t = 1 := by unfold kCopy; rw [if_neg (not_not_intro h1), if_pos h2]
    rw [ek]
    have hc := c_X6_copy_1b l D cI (md 0) (md 1) (md 2) (md 3) (md 4) (md 5) (md 6) np th a t (by first | omega | assumption) (by first | omega | assumption) (by first | omega | assumption) (by first | omega | assumption)
    refine z_liftL (wr := [(md 1, .inl (cI, 256, .inl (zA xe))), (md 2, .inl (cI, 4, .inl (zA xl))), (md 3, .inl (cI, 8, .inl (zA xp))), (md 4, .inl (cI, 8, .inl (zA xz))), (md 5, .inl (cI, 8, .inl (zA xr))), (md 6, .inl (cI, 64, .inl (zA xm)))]) hc ?_ ?_ ?_ ?_ (zM cI md xe xl xp xz xr xm np th) [0] [] [1, 2, 3, 4, 5, 6] [6, 0, 1, 2, 3, 4, 5] ?_ ?_ ?_ ?_ ?_ ?_ ?_ _ _ _ (fun _ => (0, xe, xl, xm)) ?_ ?_ ?_ ?_
    · exact Nat.le_of_ble_eq_true rfl
    · exact Nat.le_of_ble_eq_true rfl
    · rfl
    · rfl
    · rfl
    · rfl
    · decide
    · rfl
    · rfl
    · decide
    · rfl
    · exact fun u hu => ⟨zMp_err (by decide), rfl, rfl⟩
    · rfl
    · rfl
    · exact fun u => rfl
  have hlt := hxl t h2
  have ek : kCopy a t = 0 := by unfold kCopy; rw [if_neg (not_not_intro h1), if_neg (not_not_intro h2)]
  rw [ek]
  have hc := c_X6_copy_ok l D cI (md 0) (md 1) (md 2) (md 3) (md 4) (md 5) (md 6) np th xe xl a t (by first | omega | assumption) (by first | omega | assumption) (by first | omega | assumption) (by first | omega | assumption) (by first | omega | assumption)
  refine z_liftL (wr := [(md 3, .inl (cI, 8, .inl (zA xp))), (md 4, .inl (cI, 8, .inl (zA xz))), (md 5, .inl (cI, 8, .inl (zA xr))), (md 6, .inl (cI, 64, .inl (zA xm)))]) hc ?_ ?_ ?_ ?_ (zM cI md xe xl xp xz xr xm np th) [0, 1, 2] [] [3, 4, 5, 6] [4, 5, 6, 0, 1, 2, 3] ?_ ?_ ?_ ?_ ?_ ?_ ?_ _ _ _ (fun xe2 => (xl a, xe2, zU xl t (xl a), xm)) ?_ ?_ ?_ ?_
  · exact Nat.le_of_ble_eq_true rfl
  · exact Nat.le_of_ble_eq_true rfl
  · rfl
  · rfl
  · rfl
  · rfl
  · decide
  · rfl
  · rfl
  · decide
  · rfl
  · exact fun u hu => ⟨zMp_mu rfl rfl (fun k q1 q2 => (hu.1 k q1 q2).trans (rowAt_in (g := eRow xe a) ⟨q1, q2⟩).symm) hu.2, rfl, rfl⟩
  · rfl
  · rfl
  · exact fun u => rfl

set_option maxHeartbeats 1000000 in
set_option maxRecDepth 4000 in
theorem M_length (l : Launch) (D : va_G) (cI : ClassId) (md : Nat → Nat) (xe xl xp xz xr xm : Int → Int) (np th : Int) (a : Int) (hMI : zMI xe xl xp xz xr np) (ha_a : -2147483648 ≤ a ∧ a ≤ 2147483647) : zC l yX6_length wsX6_length zRM D [(cI, .int)] (zM cI md xe xl xp xz xr xm np th) [] [.ref (md 0), .int (zI a)] (S := Int × (Int → Int) × (Int → Int) × (Int → Int)) (zMp (kRow a) (xl a) False xe xl 0 0 (fun _ => 0)) (fun u => some (.int (zI u.1))) (fun u => zM cI md u.2.1 u.2.2.1 xp xz xr u.2.2.2 np (kRow a)) := by
  obtain ⟨hnp, hxl, hxe, hpl⟩ := hMI
  by_cases h1 : 0 ≤ a ∧ a < 4
  rotate_left
  · have ek : kRow a = 1 := by unfold kRow; rw [if_pos h1]
    rw [ek]
    have hc := c_X6_length_1 l D cI (md 0) (md 1) (md 2) (md 3) (md 4) (md 5) (md 6) np th a (by first | omega | assumption) (by first | omega | assumption)
    refine z_liftL (wr := [(md 1, .inl (cI, 256, .inl (zA xe))), (md 2, .inl (cI, 4, .inl (zA xl))), (md 3, .inl (cI, 8, .inl (zA xp))), (md 4, .inl (cI, 8, .inl (zA xz))), (md 5, .inl (cI, 8, .inl (zA xr))), (md 6, .inl (cI, 64, .inl (zA xm)))]) hc ?_ ?_ ?_ ?_ (zM cI md xe xl xp xz xr xm np th) [0] [] [1, 2, 3, 4, 5, 6] [6, 0, 1, 2, 3, 4, 5] ?_ ?_ ?_ ?_ ?_ ?_ ?_ _ _ _ (fun _ => (0, xe, xl, xm)) ?_ ?_ ?_ ?_
    · exact Nat.le_of_ble_eq_true rfl
    · exact Nat.le_of_ble_eq_true rfl
    · rfl
    · rfl
    · rfl
    · rfl
    · decide
    · rfl
    · rfl
    · decide
    · rfl
    · exact fun u hu => ⟨zMp_err (by decide), rfl, rfl⟩
    · rfl
    · rfl
    · exact fun u => rfl
  have hla := hxl a h1
  have ek : kRow a = 0 := by unfold kRow; rw [if_neg (not_not_intro h1)]
  rw [ek]
  have hc := c_X6_length_ok l D cI (md 0) (md 1) (md 2) (md 3) (md 4) (md 5) (md 6) np th xl a (by first | omega | assumption) (by first | omega | assumption)
  refine z_liftL (wr := [(md 1, .inl (cI, 256, .inl (zA xe))), (md 2, .inl (cI, 4, .inl (zA xl))), (md 3, .inl (cI, 8, .inl (zA xp))), (md 4, .inl (cI, 8, .inl (zA xz))), (md 5, .inl (cI, 8, .inl (zA xr))), (md 6, .inl (cI, 64, .inl (zA xm)))]) hc ?_ ?_ ?_ ?_ (zM cI md xe xl xp xz xr xm np th) [0] [2] [1, 2, 3, 4, 5, 6] [6, 0, 1, 2, 3, 4, 5] ?_ ?_ ?_ ?_ ?_ ?_ ?_ _ _ _ (fun _ => (xl a, xe, xl, xm)) ?_ ?_ ?_ ?_
  · exact Nat.le_of_ble_eq_true rfl
  · exact Nat.le_of_ble_eq_true rfl
  · rfl
  · rfl
  · rfl
  · rfl
  · decide
  · rfl
  · rfl
  · decide
  · rfl
  · exact fun u hu => ⟨zMp_ro, rfl, rfl⟩
  · rfl
  · rfl
  · exact fun u => rfl

set_option maxHeartbeats 1000000 in
set_option maxRecDepth 4000 in
theorem M_at (l : Launch) (D : va_G) (cI : ClassId) (md : Nat → Nat) (xe xl xp xz xr xm : Int → Int) (np th : Int) (a : Int) (x : Int) (hMI : zMI xe xl xp xz xr np) (ha_a : -2147483648 ≤ a ∧ a ≤ 2147483647) (ha_x : -2147483648 ≤ x ∧ x ≤ 2147483647) : zC l yX6_at wsX6_at zRM D [(cI, .int)] (zM cI md xe xl xp xz xr xm np th) [] [.ref (md 0), .int (zI a), .int (zI x)] (S := Int × (Int → Int) × (Int → Int) × (Int → Int)) (zMp (kAt xl a x) (zGm xe xl a x) False xe xl 0 0 (fun _ => 0)) (fun u => some (.int (zI u.1))) (fun u => zM cI md u.2.1 u.2.2.1 xp xz xr u.2.2.2 np (kAt xl a x)) := by
  obtain ⟨hnp, hxl, hxe, hpl⟩ := hMI
  by_cases h1 : 0 ≤ a ∧ a < 4
  rotate_left
  · have ek : kAt xl a x = 1 := by unfold kAt; rw [if_pos h1]
    rw [ek]
    have hc := c_X6_at_1a l D cI (md 0) (md 1) (md 2) (md 3) (md 4) (md 5) (md 6) np th a x (by first | omega | assumption) (by first | omega | assumption) (by first | omega | assumption)
    refine z_liftL (wr := [(md 1, .inl (cI, 256, .inl (zA xe))), (md 2, .inl (cI, 4, .inl (zA xl))), (md 3, .inl (cI, 8, .inl (zA xp))), (md 4, .inl (cI, 8, .inl (zA xz))), (md 5, .inl (cI, 8, .inl (zA xr))), (md 6, .inl (cI, 64, .inl (zA xm)))]) hc ?_ ?_ ?_ ?_ (zM cI md xe xl xp xz xr xm np th) [0] [] [1, 2, 3, 4, 5, 6] [6, 0, 1, 2, 3, 4, 5] ?_ ?_ ?_ ?_ ?_ ?_ ?_ _ _ _ (fun _ => (0, xe, xl, xm)) ?_ ?_ ?_ ?_
    · exact Nat.le_of_ble_eq_true rfl
    · exact Nat.le_of_ble_eq_true rfl
    · rfl
    · rfl
    · rfl
    · rfl
    · decide
    · rfl
    · rfl
    · decide
    · rfl
    · exact fun u hu => ⟨zMp_err (by decide), rfl, rfl⟩
    · rfl
    · rfl
    · exact fun u => rfl
  have hla := hxl a h1
  by_cases h2 : 0 ≤ x ∧ x < xl a
  rotate_left
  · have ek : kAt xl a x = 1 := by unfold kAt; rw [if_neg (not_not_intro h1), if_pos h2]
    rw [ek]
    by_cases z0 : x < 0
    · skip
      have hc := c_X6_at_1b l D cI (md 0) (md 1) (md 2) (md 3) (md 4) (md 5) (md 6) np th a x (by first | omega | assumption) (by first | omega | assumption) (by first | omega | assumption) (by first | omega | assumption)
      refine z_liftL (wr := [(md 1, .inl (cI, 256, .inl (zA xe))), (md 2, .inl (cI, 4, .inl (zA xl))), (md 3, .inl (cI, 8, .inl (zA xp))), (md 4, .inl (cI, 8, .inl (zA xz))), (md 5, .inl (cI, 8, .inl (zA xr))), (md 6, .inl (cI, 64, .inl (zA xm)))]) hc ?_ ?_ ?_ ?_ (zM cI md xe xl xp xz xr xm np th) [0] [] [1, 2, 3, 4, 5, 6] [6, 0, 1, 2, 3, 4, 5] ?_ ?_ ?_ ?_ ?_ ?_ ?_ _ _ _ (fun _ => (0, xe, xl, xm)) ?_ ?_ ?_ ?_
      · exact Nat.le_of_ble_eq_true rfl
      · exact Nat.le_of_ble_eq_true rfl
      · rfl
      · rfl
      · rfl
      · rfl
      · decide
      · rfl
      · rfl
      · decide
      · rfl
      · exact fun u hu => ⟨zMp_err (by decide), rfl, rfl⟩
      · rfl
      · rfl
      · exact fun u => rfl
    have hc := c_X6_at_1c l D cI (md 0) (md 1) (md 2) (md 3) (md 4) (md 5) (md 6) np th xl a x (by first | omega | assumption) (by first | omega | assumption) (by first | omega | assumption) (by first | omega | assumption) (by first | omega | assumption)
    refine z_liftL (wr := [(md 1, .inl (cI, 256, .inl (zA xe))), (md 2, .inl (cI, 4, .inl (zA xl))), (md 3, .inl (cI, 8, .inl (zA xp))), (md 4, .inl (cI, 8, .inl (zA xz))), (md 5, .inl (cI, 8, .inl (zA xr))), (md 6, .inl (cI, 64, .inl (zA xm)))]) hc ?_ ?_ ?_ ?_ (zM cI md xe xl xp xz xr xm np th) [0] [2] [1, 2, 3, 4, 5, 6] [6, 0, 1, 2, 3, 4, 5] ?_ ?_ ?_ ?_ ?_ ?_ ?_ _ _ _ (fun _ => (0, xe, xl, xm)) ?_ ?_ ?_ ?_
    · exact Nat.le_of_ble_eq_true rfl
    · exact Nat.le_of_ble_eq_true rfl
    · rfl
    · rfl
    · rfl
    · rfl
    · decide
    · rfl
    · rfl
    · decide
    · rfl
    · exact fun u hu => ⟨zMp_err (by decide), rfl, rfl⟩
    · rfl
    · rfl
    · exact fun u => rfl
  have ek : kAt xl a x = 0 := by unfold kAt; rw [if_neg (not_not_intro h1), if_neg (not_not_intro h2)]
  rw [ek]
  have hc := c_X6_at_ok l D cI (md 0) (md 1) (md 2) (md 3) (md 4) (md 5) (md 6) np th xe xl a x (by first | omega | assumption) (by first | omega | assumption) (by first | omega | assumption) (by first | omega | assumption) (by first | omega | assumption)
  refine z_liftL (wr := [(md 1, .inl (cI, 256, .inl (zA xe))), (md 2, .inl (cI, 4, .inl (zA xl))), (md 3, .inl (cI, 8, .inl (zA xp))), (md 4, .inl (cI, 8, .inl (zA xz))), (md 5, .inl (cI, 8, .inl (zA xr))), (md 6, .inl (cI, 64, .inl (zA xm)))]) hc ?_ ?_ ?_ ?_ (zM cI md xe xl xp xz xr xm np th) [0] [1, 2] [1, 2, 3, 4, 5, 6] [6, 0, 1, 2, 3, 4, 5] ?_ ?_ ?_ ?_ ?_ ?_ ?_ _ _ _ (fun _ => (zGm xe xl a x, xe, xl, xm)) ?_ ?_ ?_ ?_
  · exact Nat.le_of_ble_eq_true rfl
  · exact Nat.le_of_ble_eq_true rfl
  · rfl
  · rfl
  · rfl
  · rfl
  · decide
  · rfl
  · rfl
  · decide
  · rfl
  · exact fun u hu => ⟨zMp_ro, congrArg (fun z => some (Value.int (zI z))) (rowAt_in (g := eRow xe a) h2).symm, rfl⟩
  · rfl
  · rfl
  · exact fun u => rfl

set_option maxHeartbeats 1000000 in
set_option maxRecDepth 4000 in
theorem M_root (l : Launch) (D : va_G) (cI : ClassId) (md : Nat → Nat) (xe xl xp xz xr xm : Int → Int) (np th : Int) (i : Int) (hMI : zMI xe xl xp xz xr np) (ha_i : -2147483648 ≤ i ∧ i ≤ 2147483647) : zC l yX6_root wsX6_root zRM D [(cI, .int)] (zM cI md xe xl xp xz xr xm np th) [] [.ref (md 0), .int (zI i)] (S := Int × (Int → Int) × (Int → Int) × (Int → Int)) (zMp (kPl np i) (zRoot (xp i) (xz i)) False xe xl 0 0 (fun _ => 0)) (fun u => some (.int (zI u.1))) (fun u => zM cI md u.2.1 u.2.2.1 xp xz xr u.2.2.2 np (kPl np i)) := by
  obtain ⟨hnp, hxl, hxe, hpl⟩ := hMI
  by_cases h1 : 0 ≤ i ∧ i < np
  rotate_left
  · have ek : kPl np i = 1 := by unfold kPl; rw [if_pos h1]
    rw [ek]
    have hc := c_X6_root_1 l D cI (md 0) (md 1) (md 2) (md 3) (md 4) (md 5) (md 6) np th i (by first | omega | assumption) (by first | omega | assumption) (by first | omega | assumption)
    refine z_liftL (wr := [(md 1, .inl (cI, 256, .inl (zA xe))), (md 2, .inl (cI, 4, .inl (zA xl))), (md 3, .inl (cI, 8, .inl (zA xp))), (md 4, .inl (cI, 8, .inl (zA xz))), (md 5, .inl (cI, 8, .inl (zA xr))), (md 6, .inl (cI, 64, .inl (zA xm)))]) hc ?_ ?_ ?_ ?_ (zM cI md xe xl xp xz xr xm np th) [0] [] [1, 2, 3, 4, 5, 6] [6, 0, 1, 2, 3, 4, 5] ?_ ?_ ?_ ?_ ?_ ?_ ?_ _ _ _ (fun _ => (0, xe, xl, xm)) ?_ ?_ ?_ ?_
    · exact Nat.le_of_ble_eq_true rfl
    · exact Nat.le_of_ble_eq_true rfl
    · rfl
    · rfl
    · rfl
    · rfl
    · decide
    · rfl
    · rfl
    · decide
    · rfl
    · exact fun u hu => ⟨zMp_err (by decide), rfl, rfl⟩
    · rfl
    · rfl
    · exact fun u => rfl
  obtain ⟨hpn, hxr⟩ := hpl i h1
  obtain ⟨⟨hp3, hp4, hp5⟩, hp6, hn1, hn2, hn3⟩ := id hpn
  have hrt_ : 0 ≤ xr i ∧ xr i ≤ 10000 := by rw [hxr]; have := root_rng hpn; omega
  have ek : kPl np i = 0 := by unfold kPl; rw [if_neg (not_not_intro h1)]
  rw [ek]
  have hc := c_X6_root_ok l D cI (md 0) (md 1) (md 2) (md 3) (md 4) (md 5) (md 6) np th xr i (by first | omega | assumption) (by first | omega | assumption) (by first | omega | assumption)
  refine z_liftL (wr := [(md 1, .inl (cI, 256, .inl (zA xe))), (md 2, .inl (cI, 4, .inl (zA xl))), (md 3, .inl (cI, 8, .inl (zA xp))), (md 4, .inl (cI, 8, .inl (zA xz))), (md 5, .inl (cI, 8, .inl (zA xr))), (md 6, .inl (cI, 64, .inl (zA xm)))]) hc ?_ ?_ ?_ ?_ (zM cI md xe xl xp xz xr xm np th) [0] [5] [1, 2, 3, 4, 5, 6] [6, 0, 1, 2, 3, 4, 5] ?_ ?_ ?_ ?_ ?_ ?_ ?_ _ _ _ (fun _ => (zRoot (xp i) (xz i), xe, xl, xm)) ?_ ?_ ?_ ?_
  · exact Nat.le_of_ble_eq_true rfl
  · exact Nat.le_of_ble_eq_true rfl
  · rfl
  · rfl
  · rfl
  · rfl
  · decide
  · rfl
  · rfl
  · decide
  · rfl
  · exact fun u hu => ⟨zMp_ro, congrArg (fun z => some (Value.int (zI z))) hxr, rfl⟩
  · rfl
  · rfl
  · exact fun u => rfl

set_option maxHeartbeats 1000000 in
set_option maxRecDepth 4000 in
theorem M_ways (l : Launch) (D : va_G) (cI : ClassId) (md : Nat → Nat) (xe xl xp xz xr xm : Int → Int) (np th : Int) (i : Int) (hMI : zMI xe xl xp xz xr np) (ha_i : -2147483648 ≤ i ∧ i ≤ 2147483647) : zC l yX6_ways wsX6_ways zRM D [(cI, .int)] (zM cI md xe xl xp xz xr xm np th) [] [.ref (md 0), .int (zI i)] (S := Int × (Int → Int) × (Int → Int) × (Int → Int)) (zMp (kPl np i) (wset (xz i)) False xe xl 0 0 (fun _ => 0)) (fun u => some (.int (zI u.1))) (fun u => zM cI md u.2.1 u.2.2.1 xp xz xr u.2.2.2 np (kPl np i)) := by
  obtain ⟨hnp, hxl, hxe, hpl⟩ := hMI
  by_cases h1 : 0 ≤ i ∧ i < np
  rotate_left
  · have ek : kPl np i = 1 := by unfold kPl; rw [if_pos h1]
    rw [ek]
    have hc := c_X6_ways_1 l D cI (md 0) (md 1) (md 2) (md 3) (md 4) (md 5) (md 6) np th i (by first | omega | assumption) (by first | omega | assumption) (by first | omega | assumption)
    refine z_liftL (wr := [(md 1, .inl (cI, 256, .inl (zA xe))), (md 2, .inl (cI, 4, .inl (zA xl))), (md 3, .inl (cI, 8, .inl (zA xp))), (md 4, .inl (cI, 8, .inl (zA xz))), (md 5, .inl (cI, 8, .inl (zA xr))), (md 6, .inl (cI, 64, .inl (zA xm)))]) hc ?_ ?_ ?_ ?_ (zM cI md xe xl xp xz xr xm np th) [0] [] [1, 2, 3, 4, 5, 6] [6, 0, 1, 2, 3, 4, 5] ?_ ?_ ?_ ?_ ?_ ?_ ?_ _ _ _ (fun _ => (0, xe, xl, xm)) ?_ ?_ ?_ ?_
    · exact Nat.le_of_ble_eq_true rfl
    · exact Nat.le_of_ble_eq_true rfl
    · rfl
    · rfl
    · rfl
    · rfl
    · decide
    · rfl
    · rfl
    · decide
    · rfl
    · exact fun u hu => ⟨zMp_err (by decide), rfl, rfl⟩
    · rfl
    · rfl
    · exact fun u => rfl
  obtain ⟨hpn, hxr⟩ := hpl i h1
  obtain ⟨⟨hp3, hp4, hp5⟩, hp6, hn1, hn2, hn3⟩ := id hpn
  have hrt_ : 0 ≤ xr i ∧ xr i ≤ 10000 := by rw [hxr]; have := root_rng hpn; omega
  have ek : kPl np i = 0 := by unfold kPl; rw [if_neg (not_not_intro h1)]
  rw [ek]
  have hc := c_X6_ways_ok l D cI (md 0) (md 1) (md 2) (md 3) (md 4) (md 5) (md 6) np th xz i (by first | omega | assumption) (by first | omega | assumption) (by first | omega | assumption) (by first | omega | assumption)
  refine z_liftL (wr := [(md 1, .inl (cI, 256, .inl (zA xe))), (md 2, .inl (cI, 4, .inl (zA xl))), (md 3, .inl (cI, 8, .inl (zA xp))), (md 4, .inl (cI, 8, .inl (zA xz))), (md 5, .inl (cI, 8, .inl (zA xr))), (md 6, .inl (cI, 64, .inl (zA xm)))]) hc ?_ ?_ ?_ ?_ (zM cI md xe xl xp xz xr xm np th) [0] [4] [1, 2, 3, 4, 5, 6] [6, 0, 1, 2, 3, 4, 5] ?_ ?_ ?_ ?_ ?_ ?_ ?_ _ _ _ (fun _ => (wset (xz i), xe, xl, xm)) ?_ ?_ ?_ ?_
  · exact Nat.le_of_ble_eq_true rfl
  · exact Nat.le_of_ble_eq_true rfl
  · rfl
  · rfl
  · rfl
  · rfl
  · decide
  · rfl
  · rfl
  · decide
  · rfl
  · exact fun u hu => ⟨zMp_ro, rfl, rfl⟩
  · rfl
  · rfl
  · exact fun u => rfl

set_option maxHeartbeats 1000000 in
set_option maxRecDepth 4000 in
theorem M_forward (l : Launch) (D : va_G) (cI : ClassId) (md : Nat → Nat) (xe xl xp xz xr xm : Int → Int) (np th : Int) (i : Int) (a : Int) (w : Int) (hMI : zMI xe xl xp xz xr np) (ha_i : -2147483648 ≤ i ∧ i ≤ 2147483647) (ha_a : -2147483648 ≤ a ∧ a ≤ 2147483647) (ha_w : -2147483648 ≤ w ∧ w ≤ 2147483647) : zC l yX6_forward wsX6_forward zRM D [(cI, .int)] (zM cI md xe xl xp xz xr xm np th) [] [.ref (md 0), .int (zI i), .int (zI a), .int (zI w)] (S := Int × (Int → Int) × (Int → Int) × (Int → Int)) (zMp (kTr xl np xz i a w) (vFw (xp i) (xz i) (fun j => zGm xe xl a j % xp i) 0) True xe xl a (xz i) (vFw (xp i) (xz i) (fun j => zGm xe xl a j % xp i))) (fun u => some (.int (zI u.1))) (fun u => zM cI md u.2.1 u.2.2.1 xp xz xr u.2.2.2 np (kTr xl np xz i a w)) := by
  obtain ⟨hnp, hxl, hxe, hpl⟩ := hMI
  by_cases h1 : 0 ≤ i ∧ i < np
  rotate_left
  · have ek : kTr xl np xz i a w = 1 := by unfold kTr; rw [if_pos h1]
    rw [ek]
    have hc := c_X6_forward_1a l D cI (md 0) (md 1) (md 2) (md 3) (md 4) (md 5) (md 6) np th i a w (by first | omega | assumption) (by first | omega | assumption) (by first | omega | assumption) (by first | omega | assumption) (by first | omega | assumption)
    refine z_liftL (wr := [(md 1, .inl (cI, 256, .inl (zA xe))), (md 2, .inl (cI, 4, .inl (zA xl))), (md 3, .inl (cI, 8, .inl (zA xp))), (md 4, .inl (cI, 8, .inl (zA xz))), (md 5, .inl (cI, 8, .inl (zA xr))), (md 6, .inl (cI, 64, .inl (zA xm)))]) hc ?_ ?_ ?_ ?_ (zM cI md xe xl xp xz xr xm np th) [0] [] [1, 2, 3, 4, 5, 6] [6, 0, 1, 2, 3, 4, 5] ?_ ?_ ?_ ?_ ?_ ?_ ?_ _ _ _ (fun _ => (0, xe, xl, xm)) ?_ ?_ ?_ ?_
    · exact Nat.le_of_ble_eq_true rfl
    · exact Nat.le_of_ble_eq_true rfl
    · rfl
    · rfl
    · rfl
    · rfl
    · decide
    · rfl
    · rfl
    · decide
    · rfl
    · exact fun u hu => ⟨zMp_err (by decide), rfl, rfl⟩
    · rfl
    · rfl
    · exact fun u => rfl
  obtain ⟨hpn, hxr⟩ := hpl i h1
  obtain ⟨⟨hp3, hp4, hp5⟩, hp6, hn1, hn2, hn3⟩ := id hpn
  have hrt_ : 0 ≤ xr i ∧ xr i ≤ 10000 := by rw [hxr]; have := root_rng hpn; omega
  by_cases h2 : 0 ≤ a ∧ a < 4
  rotate_left
  · have ek : kTr xl np xz i a w = 1 := by unfold kTr; rw [if_neg (not_not_intro h1), if_pos h2]
    rw [ek]
    have hc := c_X6_forward_1b l D cI (md 0) (md 1) (md 2) (md 3) (md 4) (md 5) (md 6) np th i a w (by first | omega | assumption) (by first | omega | assumption) (by first | omega | assumption) (by first | omega | assumption) (by first | omega | assumption) (by first | omega | assumption)
    refine z_liftL (wr := [(md 1, .inl (cI, 256, .inl (zA xe))), (md 2, .inl (cI, 4, .inl (zA xl))), (md 3, .inl (cI, 8, .inl (zA xp))), (md 4, .inl (cI, 8, .inl (zA xz))), (md 5, .inl (cI, 8, .inl (zA xr))), (md 6, .inl (cI, 64, .inl (zA xm)))]) hc ?_ ?_ ?_ ?_ (zM cI md xe xl xp xz xr xm np th) [0] [] [1, 2, 3, 4, 5, 6] [6, 0, 1, 2, 3, 4, 5] ?_ ?_ ?_ ?_ ?_ ?_ ?_ _ _ _ (fun _ => (0, xe, xl, xm)) ?_ ?_ ?_ ?_
    · exact Nat.le_of_ble_eq_true rfl
    · exact Nat.le_of_ble_eq_true rfl
    · rfl
    · rfl
    · rfl
    · rfl
    · decide
    · rfl
    · rfl
    · decide
    · rfl
    · exact fun u hu => ⟨zMp_err (by decide), rfl, rfl⟩
    · rfl
    · rfl
    · exact fun u => rfl
  have hla := hxl a h2
  by_cases h3 : 0 ≤ w ∧ w ≤ 4 ∧ wset (xz i) / 2 ^ w.toNat % 2 = 1
  rotate_left
  · have ek : kTr xl np xz i a w = 2 := by unfold kTr; rw [if_neg (not_not_intro h1), if_neg (not_not_intro h2), if_pos h3]
    rw [ek]
    by_cases z0 : w < 0
    · skip
      have hc := c_X6_forward_2a l D cI (md 0) (md 1) (md 2) (md 3) (md 4) (md 5) (md 6) np th i a w (by first | omega | assumption) (by first | omega | assumption) (by first | omega | assumption) (by first | omega | assumption) (by first | omega | assumption) (by first | omega | assumption) (by first | omega | assumption)
      refine z_liftL (wr := [(md 1, .inl (cI, 256, .inl (zA xe))), (md 2, .inl (cI, 4, .inl (zA xl))), (md 3, .inl (cI, 8, .inl (zA xp))), (md 4, .inl (cI, 8, .inl (zA xz))), (md 5, .inl (cI, 8, .inl (zA xr))), (md 6, .inl (cI, 64, .inl (zA xm)))]) hc ?_ ?_ ?_ ?_ (zM cI md xe xl xp xz xr xm np th) [0] [] [1, 2, 3, 4, 5, 6] [6, 0, 1, 2, 3, 4, 5] ?_ ?_ ?_ ?_ ?_ ?_ ?_ _ _ _ (fun _ => (0, xe, xl, xm)) ?_ ?_ ?_ ?_
      · exact Nat.le_of_ble_eq_true rfl
      · exact Nat.le_of_ble_eq_true rfl
      · rfl
      · rfl
      · rfl
      · rfl
      · decide
      · rfl
      · rfl
      · decide
      · rfl
      · exact fun u hu => ⟨zMp_err (by decide), rfl, rfl⟩
      · rfl
      · rfl
      · exact fun u => rfl
    by_cases z1 : 4 < w
    · skip
      have hc := c_X6_forward_2b l D cI (md 0) (md 1) (md 2) (md 3) (md 4) (md 5) (md 6) np th i a w (by first | omega | assumption) (by first | omega | assumption) (by first | omega | assumption) (by first | omega | assumption) (by first | omega | assumption) (by first | omega | assumption) (by first | omega | assumption)
      refine z_liftL (wr := [(md 1, .inl (cI, 256, .inl (zA xe))), (md 2, .inl (cI, 4, .inl (zA xl))), (md 3, .inl (cI, 8, .inl (zA xp))), (md 4, .inl (cI, 8, .inl (zA xz))), (md 5, .inl (cI, 8, .inl (zA xr))), (md 6, .inl (cI, 64, .inl (zA xm)))]) hc ?_ ?_ ?_ ?_ (zM cI md xe xl xp xz xr xm np th) [0] [] [1, 2, 3, 4, 5, 6] [6, 0, 1, 2, 3, 4, 5] ?_ ?_ ?_ ?_ ?_ ?_ ?_ _ _ _ (fun _ => (0, xe, xl, xm)) ?_ ?_ ?_ ?_
      · exact Nat.le_of_ble_eq_true rfl
      · exact Nat.le_of_ble_eq_true rfl
      · rfl
      · rfl
      · rfl
      · rfl
      · decide
      · rfl
      · rfl
      · decide
      · rfl
      · exact fun u hu => ⟨zMp_err (by decide), rfl, rfl⟩
      · rfl
      · rfl
      · exact fun u => rfl
    have hc := c_X6_forward_2c l D cI (md 0) (md 1) (md 2) (md 3) (md 4) (md 5) (md 6) np th xz i a w (by first | omega | assumption) (by first | omega | assumption) (by first | omega | assumption) (by first | omega | assumption) (by first | omega | assumption) (by first | omega | assumption) (by first | omega | assumption) (by first | omega | assumption) (fun q => h3 ⟨by omega, by omega, q⟩)
    refine z_liftL (wr := [(md 1, .inl (cI, 256, .inl (zA xe))), (md 2, .inl (cI, 4, .inl (zA xl))), (md 3, .inl (cI, 8, .inl (zA xp))), (md 4, .inl (cI, 8, .inl (zA xz))), (md 5, .inl (cI, 8, .inl (zA xr))), (md 6, .inl (cI, 64, .inl (zA xm)))]) hc ?_ ?_ ?_ ?_ (zM cI md xe xl xp xz xr xm np th) [0] [4] [1, 2, 3, 4, 5, 6] [6, 0, 1, 2, 3, 4, 5] ?_ ?_ ?_ ?_ ?_ ?_ ?_ _ _ _ (fun _ => (0, xe, xl, xm)) ?_ ?_ ?_ ?_
    · exact Nat.le_of_ble_eq_true rfl
    · exact Nat.le_of_ble_eq_true rfl
    · rfl
    · rfl
    · rfl
    · rfl
    · decide
    · rfl
    · rfl
    · decide
    · rfl
    · exact fun u hu => ⟨zMp_err (by decide), rfl, rfl⟩
    · rfl
    · rfl
    · exact fun u => rfl
  by_cases h4 : xz i < xl a
  · have ek : kTr xl np xz i a w = 3 := by unfold kTr; rw [if_neg (not_not_intro h1), if_neg (not_not_intro h2), if_neg (not_not_intro h3), if_pos h4]
    rw [ek]
    have hc := c_X6_forward_3 l D cI (md 0) (md 1) (md 2) (md 3) (md 4) (md 5) (md 6) np th xl xz i a w (by first | omega | assumption) (by first | omega | assumption) (by first | omega | assumption) (by first | omega | assumption) (by first | omega | assumption) (by first | omega | assumption) (by first | omega | assumption) (by first | omega | assumption) (by first | omega | assumption) h3.2.2 (by first | omega | assumption)
    refine z_liftL (wr := [(md 1, .inl (cI, 256, .inl (zA xe))), (md 2, .inl (cI, 4, .inl (zA xl))), (md 3, .inl (cI, 8, .inl (zA xp))), (md 4, .inl (cI, 8, .inl (zA xz))), (md 5, .inl (cI, 8, .inl (zA xr))), (md 6, .inl (cI, 64, .inl (zA xm)))]) hc ?_ ?_ ?_ ?_ (zM cI md xe xl xp xz xr xm np th) [0] [2, 4] [1, 2, 3, 4, 5, 6] [6, 0, 1, 2, 3, 4, 5] ?_ ?_ ?_ ?_ ?_ ?_ ?_ _ _ _ (fun _ => (0, xe, xl, xm)) ?_ ?_ ?_ ?_
    · exact Nat.le_of_ble_eq_true rfl
    · exact Nat.le_of_ble_eq_true rfl
    · rfl
    · rfl
    · rfl
    · rfl
    · decide
    · rfl
    · rfl
    · decide
    · rfl
    · exact fun u hu => ⟨zMp_err (by decide), rfl, rfl⟩
    · rfl
    · rfl
    · exact fun u => rfl
  have ek : kTr xl np xz i a w = 0 := by unfold kTr; rw [if_neg (not_not_intro h1), if_neg (not_not_intro h2), if_neg (not_not_intro h3), if_neg h4]
  rw [ek]
  have hc := c_X6_forward_ok l D cI (md 0) (md 1) (md 2) (md 3) (md 4) (md 5) (md 6) np th xe xl xm xp xz xr i a w (by first | omega | assumption) (by first | omega | assumption) (by first | omega | assumption) (by first | omega | assumption) (by first | omega | assumption) (by first | omega | assumption) (by first | omega | assumption) (by first | omega | assumption) (by first | omega | assumption) (by first | omega | assumption) hxe (by first | omega | assumption) h3.2.2 (by first | omega | assumption)
  refine z_liftL (wr := [(md 3, .inl (cI, 8, .inl (zA xp))), (md 4, .inl (cI, 8, .inl (zA xz))), (md 5, .inl (cI, 8, .inl (zA xr)))]) hc ?_ ?_ ?_ ?_ (zM cI md xe xl xp xz xr xm np th) [0, 1, 2, 6] [3, 4, 5] [3, 4, 5] [3, 4, 5, 0, 1, 2, 6] ?_ ?_ ?_ ?_ ?_ ?_ ?_ _ _ _ (fun (xe2, xm2) => (vFw (xp i) (xz i) (fun j => zGm xe xl a j % xp i) 0, xe2, zU xl a (xz i), xm2)) ?_ ?_ ?_ ?_
  · exact Nat.le_of_ble_eq_true rfl
  · exact Nat.le_of_ble_eq_true rfl
  · rfl
  · rfl
  · rfl
  · rfl
  · decide
  · rfl
  · rfl
  · decide
  · rfl
  · exact fun u hu => by
      obtain ⟨xe2, xm2⟩ := u
      exact ⟨zMp_mu rfl rfl (fun k q1 q2 => (hu.1 k q1 q2).trans (by unfold vFw; rw [hxr]; rfl)) hu.2, congrArg (fun z => some (Value.int (zI z))) (by unfold vFw; rw [hxr]; rfl), rfl⟩
  · rfl
  · rfl
  · exact fun u => rfl

set_option maxHeartbeats 1000000 in
set_option maxRecDepth 4000 in
theorem M_backward (l : Launch) (D : va_G) (cI : ClassId) (md : Nat → Nat) (xe xl xp xz xr xm : Int → Int) (np th : Int) (i : Int) (a : Int) (w : Int) (hMI : zMI xe xl xp xz xr np) (ha_i : -2147483648 ≤ i ∧ i ≤ 2147483647) (ha_a : -2147483648 ≤ a ∧ a ≤ 2147483647) (ha_w : -2147483648 ≤ w ∧ w ≤ 2147483647) : zC l yX6_backward wsX6_backward zRM D [(cI, .int)] (zM cI md xe xl xp xz xr xm np th) [] [.ref (md 0), .int (zI i), .int (zI a), .int (zI w)] (S := Int × (Int → Int) × (Int → Int) × (Int → Int)) (zMp (kTr xl np xz i a w) (vBk (xp i) (xz i) (fun j => zGm xe xl a j % xp i) 0) True xe xl a (xz i) (vBk (xp i) (xz i) (fun j => zGm xe xl a j % xp i))) (fun u => some (.int (zI u.1))) (fun u => zM cI md u.2.1 u.2.2.1 xp xz xr u.2.2.2 np (kTr xl np xz i a w)) := by
  obtain ⟨hnp, hxl, hxe, hpl⟩ := hMI
  by_cases h1 : 0 ≤ i ∧ i < np
  rotate_left
  · have ek : kTr xl np xz i a w = 1 := by unfold kTr; rw [if_pos h1]
    rw [ek]
    have hc := c_X6_backward_1a l D cI (md 0) (md 1) (md 2) (md 3) (md 4) (md 5) (md 6) np th i a w (by first | omega | assumption) (by first | omega | assumption) (by first | omega | assumption) (by first | omega | assumption) (by first | omega | assumption)
    refine z_liftL (wr := [(md 1, .inl (cI, 256, .inl (zA xe))), (md 2, .inl (cI, 4, .inl (zA xl))), (md 3, .inl (cI, 8, .inl (zA xp))), (md 4, .inl (cI, 8, .inl (zA xz))), (md 5, .inl (cI, 8, .inl (zA xr))), (md 6, .inl (cI, 64, .inl (zA xm)))]) hc ?_ ?_ ?_ ?_ (zM cI md xe xl xp xz xr xm np th) [0] [] [1, 2, 3, 4, 5, 6] [6, 0, 1, 2, 3, 4, 5] ?_ ?_ ?_ ?_ ?_ ?_ ?_ _ _ _ (fun _ => (0, xe, xl, xm)) ?_ ?_ ?_ ?_
    · exact Nat.le_of_ble_eq_true rfl
    · exact Nat.le_of_ble_eq_true rfl
    · rfl
    · rfl
    · rfl
    · rfl
    · decide
    · rfl
    · rfl
    · decide
    · rfl
    · exact fun u hu => ⟨zMp_err (by decide), rfl, rfl⟩
    · rfl
    · rfl
    · exact fun u => rfl
  obtain ⟨hpn, hxr⟩ := hpl i h1
  obtain ⟨⟨hp3, hp4, hp5⟩, hp6, hn1, hn2, hn3⟩ := id hpn
  have hrt_ : 0 ≤ xr i ∧ xr i ≤ 10000 := by rw [hxr]; have := root_rng hpn; omega
  by_cases h2 : 0 ≤ a ∧ a < 4
  rotate_left
  · have ek : kTr xl np xz i a w = 1 := by unfold kTr; rw [if_neg (not_not_intro h1), if_pos h2]
    rw [ek]
    have hc := c_X6_backward_1b l D cI (md 0) (md 1) (md 2) (md 3) (md 4) (md 5) (md 6) np th i a w (by first | omega | assumption) (by first | omega | assumption) (by first | omega | assumption) (by first | omega | assumption) (by first | omega | assumption) (by first | omega | assumption)
    refine z_liftL (wr := [(md 1, .inl (cI, 256, .inl (zA xe))), (md 2, .inl (cI, 4, .inl (zA xl))), (md 3, .inl (cI, 8, .inl (zA xp))), (md 4, .inl (cI, 8, .inl (zA xz))), (md 5, .inl (cI, 8, .inl (zA xr))), (md 6, .inl (cI, 64, .inl (zA xm)))]) hc ?_ ?_ ?_ ?_ (zM cI md xe xl xp xz xr xm np th) [0] [] [1, 2, 3, 4, 5, 6] [6, 0, 1, 2, 3, 4, 5] ?_ ?_ ?_ ?_ ?_ ?_ ?_ _ _ _ (fun _ => (0, xe, xl, xm)) ?_ ?_ ?_ ?_
    · exact Nat.le_of_ble_eq_true rfl
    · exact Nat.le_of_ble_eq_true rfl
    · rfl
    · rfl
    · rfl
    · rfl
    · decide
    · rfl
    · rfl
    · decide
    · rfl
    · exact fun u hu => ⟨zMp_err (by decide), rfl, rfl⟩
    · rfl
    · rfl
    · exact fun u => rfl
  have hla := hxl a h2
  by_cases h3 : 0 ≤ w ∧ w ≤ 4 ∧ wset (xz i) / 2 ^ w.toNat % 2 = 1
  rotate_left
  · have ek : kTr xl np xz i a w = 2 := by unfold kTr; rw [if_neg (not_not_intro h1), if_neg (not_not_intro h2), if_pos h3]
    rw [ek]
    by_cases z0 : w < 0
    · skip
      have hc := c_X6_backward_2a l D cI (md 0) (md 1) (md 2) (md 3) (md 4) (md 5) (md 6) np th i a w (by first | omega | assumption) (by first | omega | assumption) (by first | omega | assumption) (by first | omega | assumption) (by first | omega | assumption) (by first | omega | assumption) (by first | omega | assumption)
      refine z_liftL (wr := [(md 1, .inl (cI, 256, .inl (zA xe))), (md 2, .inl (cI, 4, .inl (zA xl))), (md 3, .inl (cI, 8, .inl (zA xp))), (md 4, .inl (cI, 8, .inl (zA xz))), (md 5, .inl (cI, 8, .inl (zA xr))), (md 6, .inl (cI, 64, .inl (zA xm)))]) hc ?_ ?_ ?_ ?_ (zM cI md xe xl xp xz xr xm np th) [0] [] [1, 2, 3, 4, 5, 6] [6, 0, 1, 2, 3, 4, 5] ?_ ?_ ?_ ?_ ?_ ?_ ?_ _ _ _ (fun _ => (0, xe, xl, xm)) ?_ ?_ ?_ ?_
      · exact Nat.le_of_ble_eq_true rfl
      · exact Nat.le_of_ble_eq_true rfl
      · rfl
      · rfl
      · rfl
      · rfl
      · decide
      · rfl
      · rfl
      · decide
      · rfl
      · exact fun u hu => ⟨zMp_err (by decide), rfl, rfl⟩
      · rfl
      · rfl
      · exact fun u => rfl
    by_cases z1 : 4 < w
    · skip
      have hc := c_X6_backward_2b l D cI (md 0) (md 1) (md 2) (md 3) (md 4) (md 5) (md 6) np th i a w (by first | omega | assumption) (by first | omega | assumption) (by first | omega | assumption) (by first | omega | assumption) (by first | omega | assumption) (by first | omega | assumption) (by first | omega | assumption)
      refine z_liftL (wr := [(md 1, .inl (cI, 256, .inl (zA xe))), (md 2, .inl (cI, 4, .inl (zA xl))), (md 3, .inl (cI, 8, .inl (zA xp))), (md 4, .inl (cI, 8, .inl (zA xz))), (md 5, .inl (cI, 8, .inl (zA xr))), (md 6, .inl (cI, 64, .inl (zA xm)))]) hc ?_ ?_ ?_ ?_ (zM cI md xe xl xp xz xr xm np th) [0] [] [1, 2, 3, 4, 5, 6] [6, 0, 1, 2, 3, 4, 5] ?_ ?_ ?_ ?_ ?_ ?_ ?_ _ _ _ (fun _ => (0, xe, xl, xm)) ?_ ?_ ?_ ?_
      · exact Nat.le_of_ble_eq_true rfl
      · exact Nat.le_of_ble_eq_true rfl
      · rfl
      · rfl
      · rfl
      · rfl
      · decide
      · rfl
      · rfl
      · decide
      · rfl
      · exact fun u hu => ⟨zMp_err (by decide), rfl, rfl⟩
      · rfl
      · rfl
      · exact fun u => rfl
    have hc := c_X6_backward_2c l D cI (md 0) (md 1) (md 2) (md 3) (md 4) (md 5) (md 6) np th xz i a w (by first | omega | assumption) (by first | omega | assumption) (by first | omega | assumption) (by first | omega | assumption) (by first | omega | assumption) (by first | omega | assumption) (by first | omega | assumption) (by first | omega | assumption) (fun q => h3 ⟨by omega, by omega, q⟩)
    refine z_liftL (wr := [(md 1, .inl (cI, 256, .inl (zA xe))), (md 2, .inl (cI, 4, .inl (zA xl))), (md 3, .inl (cI, 8, .inl (zA xp))), (md 4, .inl (cI, 8, .inl (zA xz))), (md 5, .inl (cI, 8, .inl (zA xr))), (md 6, .inl (cI, 64, .inl (zA xm)))]) hc ?_ ?_ ?_ ?_ (zM cI md xe xl xp xz xr xm np th) [0] [4] [1, 2, 3, 4, 5, 6] [6, 0, 1, 2, 3, 4, 5] ?_ ?_ ?_ ?_ ?_ ?_ ?_ _ _ _ (fun _ => (0, xe, xl, xm)) ?_ ?_ ?_ ?_
    · exact Nat.le_of_ble_eq_true rfl
    · exact Nat.le_of_ble_eq_true rfl
    · rfl
    · rfl
    · rfl
    · rfl
    · decide
    · rfl
    · rfl
    · decide
    · rfl
    · exact fun u hu => ⟨zMp_err (by decide), rfl, rfl⟩
    · rfl
    · rfl
    · exact fun u => rfl
  by_cases h4 : xz i < xl a
  · have ek : kTr xl np xz i a w = 3 := by unfold kTr; rw [if_neg (not_not_intro h1), if_neg (not_not_intro h2), if_neg (not_not_intro h3), if_pos h4]
    rw [ek]
    have hc := c_X6_backward_3 l D cI (md 0) (md 1) (md 2) (md 3) (md 4) (md 5) (md 6) np th xl xz i a w (by first | omega | assumption) (by first | omega | assumption) (by first | omega | assumption) (by first | omega | assumption) (by first | omega | assumption) (by first | omega | assumption) (by first | omega | assumption) (by first | omega | assumption) (by first | omega | assumption) h3.2.2 (by first | omega | assumption)
    refine z_liftL (wr := [(md 1, .inl (cI, 256, .inl (zA xe))), (md 2, .inl (cI, 4, .inl (zA xl))), (md 3, .inl (cI, 8, .inl (zA xp))), (md 4, .inl (cI, 8, .inl (zA xz))), (md 5, .inl (cI, 8, .inl (zA xr))), (md 6, .inl (cI, 64, .inl (zA xm)))]) hc ?_ ?_ ?_ ?_ (zM cI md xe xl xp xz xr xm np th) [0] [2, 4] [1, 2, 3, 4, 5, 6] [6, 0, 1, 2, 3, 4, 5] ?_ ?_ ?_ ?_ ?_ ?_ ?_ _ _ _ (fun _ => (0, xe, xl, xm)) ?_ ?_ ?_ ?_
    · exact Nat.le_of_ble_eq_true rfl
    · exact Nat.le_of_ble_eq_true rfl
    · rfl
    · rfl
    · rfl
    · rfl
    · decide
    · rfl
    · rfl
    · decide
    · rfl
    · exact fun u hu => ⟨zMp_err (by decide), rfl, rfl⟩
    · rfl
    · rfl
    · exact fun u => rfl
  have ek : kTr xl np xz i a w = 0 := by unfold kTr; rw [if_neg (not_not_intro h1), if_neg (not_not_intro h2), if_neg (not_not_intro h3), if_neg h4]
  rw [ek]
  have hc := c_X6_backward_ok l D cI (md 0) (md 1) (md 2) (md 3) (md 4) (md 5) (md 6) np th xe xl xm xp xz xr i a w (by first | omega | assumption) (by first | omega | assumption) (by first | omega | assumption) (by first | omega | assumption) (by first | omega | assumption) (by first | omega | assumption) (by first | omega | assumption) (by first | omega | assumption) (by first | omega | assumption) (by first | omega | assumption) hxe (by first | omega | assumption) h3.2.2 (by first | omega | assumption)
  refine z_liftL (wr := [(md 3, .inl (cI, 8, .inl (zA xp))), (md 4, .inl (cI, 8, .inl (zA xz))), (md 5, .inl (cI, 8, .inl (zA xr)))]) hc ?_ ?_ ?_ ?_ (zM cI md xe xl xp xz xr xm np th) [0, 1, 2, 6] [3, 4, 5] [3, 4, 5] [3, 4, 5, 0, 1, 2, 6] ?_ ?_ ?_ ?_ ?_ ?_ ?_ _ _ _ (fun (xe2, xm2) => (vBk (xp i) (xz i) (fun j => zGm xe xl a j % xp i) 0, xe2, zU xl a (xz i), xm2)) ?_ ?_ ?_ ?_
  · exact Nat.le_of_ble_eq_true rfl
  · exact Nat.le_of_ble_eq_true rfl
  · rfl
  · rfl
  · rfl
  · rfl
  · decide
  · rfl
  · rfl
  · decide
  · rfl
  · exact fun u hu => by
      obtain ⟨xe2, xm2⟩ := u
      exact ⟨zMp_mu rfl rfl (fun k q1 q2 => (hu.1 k q1 q2).trans (by unfold vBk; rw [hxr]; rfl)) hu.2, congrArg (fun z => some (Value.int (zI z))) (by unfold vBk; rw [hxr]; rfl), rfl⟩
  · rfl
  · rfl
  · exact fun u => rfl

set_option maxHeartbeats 1000000 in
set_option maxRecDepth 4000 in
theorem M_sum (l : Launch) (D : va_G) (cI : ClassId) (md : Nat → Nat) (xe xl xp xz xr xm : Int → Int) (np th : Int) (i : Int) (a : Int) (x : Int) (hMI : zMI xe xl xp xz xr np) (ha_i : -2147483648 ≤ i ∧ i ≤ 2147483647) (ha_a : -2147483648 ≤ a ∧ a ≤ 2147483647) (ha_x : -2147483648 ≤ x ∧ x ≤ 2147483647) : zC l yX6_sum wsX6_sum zRM D [(cI, .int)] (zM cI md xe xl xp xz xr xm np th) [] [.ref (md 0), .int (zI i), .int (zI a), .int (zI x)] (S := Int × (Int → Int) × (Int → Int) × (Int → Int)) (zMp (kSum xl np xz i a x) (sumR (xp i) (xz i) (zRoot (xp i) (xz i)) (fun j => zGm xe xl a j % xp i) x) False xe xl 0 0 (fun _ => 0)) (fun u => some (.int (zI u.1))) (fun u => zM cI md u.2.1 u.2.2.1 xp xz xr u.2.2.2 np (kSum xl np xz i a x)) := by
  obtain ⟨hnp, hxl, hxe, hpl⟩ := hMI
  by_cases h1 : 0 ≤ i ∧ i < np
  rotate_left
  · have ek : kSum xl np xz i a x = 1 := by unfold kSum; rw [if_pos h1]
    rw [ek]
    have hc := c_X6_sum_1a l D cI (md 0) (md 1) (md 2) (md 3) (md 4) (md 5) (md 6) np th i a x (by first | omega | assumption) (by first | omega | assumption) (by first | omega | assumption) (by first | omega | assumption) (by first | omega | assumption)
    refine z_liftL (wr := [(md 1, .inl (cI, 256, .inl (zA xe))), (md 2, .inl (cI, 4, .inl (zA xl))), (md 3, .inl (cI, 8, .inl (zA xp))), (md 4, .inl (cI, 8, .inl (zA xz))), (md 5, .inl (cI, 8, .inl (zA xr))), (md 6, .inl (cI, 64, .inl (zA xm)))]) hc ?_ ?_ ?_ ?_ (zM cI md xe xl xp xz xr xm np th) [0] [] [1, 2, 3, 4, 5, 6] [6, 0, 1, 2, 3, 4, 5] ?_ ?_ ?_ ?_ ?_ ?_ ?_ _ _ _ (fun _ => (0, xe, xl, xm)) ?_ ?_ ?_ ?_
    · exact Nat.le_of_ble_eq_true rfl
    · exact Nat.le_of_ble_eq_true rfl
    · rfl
    · rfl
    · rfl
    · rfl
    · decide
    · rfl
    · rfl
    · decide
    · rfl
    · exact fun u hu => ⟨zMp_err (by decide), rfl, rfl⟩
    · rfl
    · rfl
    · exact fun u => rfl
  obtain ⟨hpn, hxr⟩ := hpl i h1
  obtain ⟨⟨hp3, hp4, hp5⟩, hp6, hn1, hn2, hn3⟩ := id hpn
  have hrt_ : 0 ≤ xr i ∧ xr i ≤ 10000 := by rw [hxr]; have := root_rng hpn; omega
  by_cases h2 : 0 ≤ a ∧ a < 4
  rotate_left
  · have ek : kSum xl np xz i a x = 1 := by unfold kSum; rw [if_neg (not_not_intro h1), if_pos h2]
    rw [ek]
    have hc := c_X6_sum_1b l D cI (md 0) (md 1) (md 2) (md 3) (md 4) (md 5) (md 6) np th i a x (by first | omega | assumption) (by first | omega | assumption) (by first | omega | assumption) (by first | omega | assumption) (by first | omega | assumption) (by first | omega | assumption)
    refine z_liftL (wr := [(md 1, .inl (cI, 256, .inl (zA xe))), (md 2, .inl (cI, 4, .inl (zA xl))), (md 3, .inl (cI, 8, .inl (zA xp))), (md 4, .inl (cI, 8, .inl (zA xz))), (md 5, .inl (cI, 8, .inl (zA xr))), (md 6, .inl (cI, 64, .inl (zA xm)))]) hc ?_ ?_ ?_ ?_ (zM cI md xe xl xp xz xr xm np th) [0] [] [1, 2, 3, 4, 5, 6] [6, 0, 1, 2, 3, 4, 5] ?_ ?_ ?_ ?_ ?_ ?_ ?_ _ _ _ (fun _ => (0, xe, xl, xm)) ?_ ?_ ?_ ?_
    · exact Nat.le_of_ble_eq_true rfl
    · exact Nat.le_of_ble_eq_true rfl
    · rfl
    · rfl
    · rfl
    · rfl
    · decide
    · rfl
    · rfl
    · decide
    · rfl
    · exact fun u hu => ⟨zMp_err (by decide), rfl, rfl⟩
    · rfl
    · rfl
    · exact fun u => rfl
  have hla := hxl a h2
  by_cases h3 : 0 ≤ x ∧ x < xz i
  rotate_left
  · have ek : kSum xl np xz i a x = 1 := by unfold kSum; rw [if_neg (not_not_intro h1), if_neg (not_not_intro h2), if_pos h3]
    rw [ek]
    by_cases z0 : x < 0
    · skip
      have hc := c_X6_sum_1c l D cI (md 0) (md 1) (md 2) (md 3) (md 4) (md 5) (md 6) np th i a x (by first | omega | assumption) (by first | omega | assumption) (by first | omega | assumption) (by first | omega | assumption) (by first | omega | assumption) (by first | omega | assumption) (by first | omega | assumption)
      refine z_liftL (wr := [(md 1, .inl (cI, 256, .inl (zA xe))), (md 2, .inl (cI, 4, .inl (zA xl))), (md 3, .inl (cI, 8, .inl (zA xp))), (md 4, .inl (cI, 8, .inl (zA xz))), (md 5, .inl (cI, 8, .inl (zA xr))), (md 6, .inl (cI, 64, .inl (zA xm)))]) hc ?_ ?_ ?_ ?_ (zM cI md xe xl xp xz xr xm np th) [0] [] [1, 2, 3, 4, 5, 6] [6, 0, 1, 2, 3, 4, 5] ?_ ?_ ?_ ?_ ?_ ?_ ?_ _ _ _ (fun _ => (0, xe, xl, xm)) ?_ ?_ ?_ ?_
      · exact Nat.le_of_ble_eq_true rfl
      · exact Nat.le_of_ble_eq_true rfl
      · rfl
      · rfl
      · rfl
      · rfl
      · decide
      · rfl
      · rfl
      · decide
      · rfl
      · exact fun u hu => ⟨zMp_err (by decide), rfl, rfl⟩
      · rfl
      · rfl
      · exact fun u => rfl
    have hc := c_X6_sum_1d l D cI (md 0) (md 1) (md 2) (md 3) (md 4) (md 5) (md 6) np th xz i a x (by first | omega | assumption) (by first | omega | assumption) (by first | omega | assumption) (by first | omega | assumption) (by first | omega | assumption) (by first | omega | assumption) (by first | omega | assumption) (by first | omega | assumption)
    refine z_liftL (wr := [(md 1, .inl (cI, 256, .inl (zA xe))), (md 2, .inl (cI, 4, .inl (zA xl))), (md 3, .inl (cI, 8, .inl (zA xp))), (md 4, .inl (cI, 8, .inl (zA xz))), (md 5, .inl (cI, 8, .inl (zA xr))), (md 6, .inl (cI, 64, .inl (zA xm)))]) hc ?_ ?_ ?_ ?_ (zM cI md xe xl xp xz xr xm np th) [0] [4] [1, 2, 3, 4, 5, 6] [6, 0, 1, 2, 3, 4, 5] ?_ ?_ ?_ ?_ ?_ ?_ ?_ _ _ _ (fun _ => (0, xe, xl, xm)) ?_ ?_ ?_ ?_
    · exact Nat.le_of_ble_eq_true rfl
    · exact Nat.le_of_ble_eq_true rfl
    · rfl
    · rfl
    · rfl
    · rfl
    · decide
    · rfl
    · rfl
    · decide
    · rfl
    · exact fun u hu => ⟨zMp_err (by decide), rfl, rfl⟩
    · rfl
    · rfl
    · exact fun u => rfl
  by_cases h4 : xz i < xl a
  · have ek : kSum xl np xz i a x = 2 := by unfold kSum; rw [if_neg (not_not_intro h1), if_neg (not_not_intro h2), if_neg (not_not_intro h3), if_pos h4]
    rw [ek]
    have hc := c_X6_sum_2 l D cI (md 0) (md 1) (md 2) (md 3) (md 4) (md 5) (md 6) np th xl xz i a x (by first | omega | assumption) (by first | omega | assumption) (by first | omega | assumption) (by first | omega | assumption) (by first | omega | assumption) (by first | omega | assumption) (by first | omega | assumption) (by first | omega | assumption) (by first | omega | assumption) (by first | omega | assumption)
    refine z_liftL (wr := [(md 1, .inl (cI, 256, .inl (zA xe))), (md 2, .inl (cI, 4, .inl (zA xl))), (md 3, .inl (cI, 8, .inl (zA xp))), (md 4, .inl (cI, 8, .inl (zA xz))), (md 5, .inl (cI, 8, .inl (zA xr))), (md 6, .inl (cI, 64, .inl (zA xm)))]) hc ?_ ?_ ?_ ?_ (zM cI md xe xl xp xz xr xm np th) [0] [2, 4] [1, 2, 3, 4, 5, 6] [6, 0, 1, 2, 3, 4, 5] ?_ ?_ ?_ ?_ ?_ ?_ ?_ _ _ _ (fun _ => (0, xe, xl, xm)) ?_ ?_ ?_ ?_
    · exact Nat.le_of_ble_eq_true rfl
    · exact Nat.le_of_ble_eq_true rfl
    · rfl
    · rfl
    · rfl
    · rfl
    · decide
    · rfl
    · rfl
    · decide
    · rfl
    · exact fun u hu => ⟨zMp_err (by decide), rfl, rfl⟩
    · rfl
    · rfl
    · exact fun u => rfl
  have ek : kSum xl np xz i a x = 0 := by unfold kSum; rw [if_neg (not_not_intro h1), if_neg (not_not_intro h2), if_neg (not_not_intro h3), if_neg h4]
  rw [ek]
  have hc := c_X6_sum_ok l D cI (md 0) (md 1) (md 2) (md 3) (md 4) (md 5) (md 6) np th xe xl xp xz xr i a x (by first | omega | assumption) (by first | omega | assumption) (by first | omega | assumption) (by first | omega | assumption) (by first | omega | assumption) (by first | omega | assumption) (by first | omega | assumption) (by first | omega | assumption) (by first | omega | assumption) (by first | omega | assumption) hxe (by first | omega | assumption) (by first | omega | assumption)
  refine z_liftL (wr := [(md 1, .inl (cI, 256, .inl (zA xe))), (md 2, .inl (cI, 4, .inl (zA xl))), (md 3, .inl (cI, 8, .inl (zA xp))), (md 4, .inl (cI, 8, .inl (zA xz))), (md 5, .inl (cI, 8, .inl (zA xr))), (md 6, .inl (cI, 64, .inl (zA xm)))]) hc ?_ ?_ ?_ ?_ (zM cI md xe xl xp xz xr xm np th) [0] [1, 2, 3, 4, 5] [1, 2, 3, 4, 5, 6] [6, 0, 1, 2, 3, 4, 5] ?_ ?_ ?_ ?_ ?_ ?_ ?_ _ _ _ (fun _ => (sumR (xp i) (xz i) (zRoot (xp i) (xz i)) (fun j => zGm xe xl a j % xp i) x, xe, xl, xm)) ?_ ?_ ?_ ?_
  · exact Nat.le_of_ble_eq_true rfl
  · exact Nat.le_of_ble_eq_true rfl
  · rfl
  · rfl
  · rfl
  · rfl
  · decide
  · rfl
  · rfl
  · decide
  · rfl
  · exact fun u hu => ⟨zMp_ro, congrArg (fun z => some (Value.int (zI z))) (by rw [hxr]; rfl), rfl⟩
  · rfl
  · rfl
  · exact fun u => rfl

set_option maxHeartbeats 1000000 in
set_option maxRecDepth 4000 in
theorem M_convolve (l : Launch) (D : va_G) (cI : ClassId) (md : Nat → Nat) (xe xl xp xz xr xm : Int → Int) (np th : Int) (i : Int) (a : Int) (b : Int) (t : Int) (hMI : zMI xe xl xp xz xr np) (ha_i : -2147483648 ≤ i ∧ i ≤ 2147483647) (ha_a : -2147483648 ≤ a ∧ a ≤ 2147483647) (ha_b : -2147483648 ≤ b ∧ b ≤ 2147483647) (ha_t : -2147483648 ≤ t ∧ t ≤ 2147483647) : zC l yX6_convolve wsX6_convolve zRM D [(cI, .int)] (zM cI md xe xl xp xz xr xm np th) [] [.ref (md 0), .int (zI i), .int (zI a), .int (zI b), .int (zI t)] (S := Int × (Int → Int) × (Int → Int) × (Int → Int)) (zMp (kConv xl np xz i a b t) (xz i) True xe xl t (xz i) (cyc (xp i) (xz i) (fun j => zGm xe xl a j % xp i) (fun j => zGm xe xl b j % xp i))) (fun u => some (.int (zI u.1))) (fun u => zM cI md u.2.1 u.2.2.1 xp xz xr u.2.2.2 np (kConv xl np xz i a b t)) := by
  obtain ⟨hnp, hxl, hxe, hpl⟩ := hMI
  by_cases h1 : 0 ≤ i ∧ i < np
  rotate_left
  · have ek : kConv xl np xz i a b t = 1 := by unfold kConv; rw [if_pos h1]
    rw [ek]
    have hc := c_X6_convolve_1a l D cI (md 0) (md 1) (md 2) (md 3) (md 4) (md 5) (md 6) np th i a b t (by first | omega | assumption) (by first | omega | assumption) (by first | omega | assumption) (by first | omega | assumption) (by first | omega | assumption) (by first | omega | assumption)
    refine z_liftL (wr := [(md 1, .inl (cI, 256, .inl (zA xe))), (md 2, .inl (cI, 4, .inl (zA xl))), (md 3, .inl (cI, 8, .inl (zA xp))), (md 4, .inl (cI, 8, .inl (zA xz))), (md 5, .inl (cI, 8, .inl (zA xr))), (md 6, .inl (cI, 64, .inl (zA xm)))]) hc ?_ ?_ ?_ ?_ (zM cI md xe xl xp xz xr xm np th) [0] [] [1, 2, 3, 4, 5, 6] [6, 0, 1, 2, 3, 4, 5] ?_ ?_ ?_ ?_ ?_ ?_ ?_ _ _ _ (fun _ => (0, xe, xl, xm)) ?_ ?_ ?_ ?_
    · exact Nat.le_of_ble_eq_true rfl
    · exact Nat.le_of_ble_eq_true rfl
    · rfl
    · rfl
    · rfl
    · rfl
    · decide
    · rfl
    · rfl
    · decide
    · rfl
    · exact fun u hu => ⟨zMp_err (by decide), rfl, rfl⟩
    · rfl
    · rfl
    · exact fun u => rfl
  obtain ⟨hpn, hxr⟩ := hpl i h1
  obtain ⟨⟨hp3, hp4, hp5⟩, hp6, hn1, hn2, hn3⟩ := id hpn
  have hrt_ : 0 ≤ xr i ∧ xr i ≤ 10000 := by rw [hxr]; have := root_rng hpn; omega
  by_cases h2 : 0 ≤ a ∧ a < 4
  rotate_left
  · have ek : kConv xl np xz i a b t = 1 := by unfold kConv; rw [if_neg (not_not_intro h1), if_pos h2]
    rw [ek]
    have hc := c_X6_convolve_1b l D cI (md 0) (md 1) (md 2) (md 3) (md 4) (md 5) (md 6) np th i a b t (by first | omega | assumption) (by first | omega | assumption) (by first | omega | assumption) (by first | omega | assumption) (by first | omega | assumption) (by first | omega | assumption) (by first | omega | assumption)
    refine z_liftL (wr := [(md 1, .inl (cI, 256, .inl (zA xe))), (md 2, .inl (cI, 4, .inl (zA xl))), (md 3, .inl (cI, 8, .inl (zA xp))), (md 4, .inl (cI, 8, .inl (zA xz))), (md 5, .inl (cI, 8, .inl (zA xr))), (md 6, .inl (cI, 64, .inl (zA xm)))]) hc ?_ ?_ ?_ ?_ (zM cI md xe xl xp xz xr xm np th) [0] [] [1, 2, 3, 4, 5, 6] [6, 0, 1, 2, 3, 4, 5] ?_ ?_ ?_ ?_ ?_ ?_ ?_ _ _ _ (fun _ => (0, xe, xl, xm)) ?_ ?_ ?_ ?_
    · exact Nat.le_of_ble_eq_true rfl
    · exact Nat.le_of_ble_eq_true rfl
    · rfl
    · rfl
    · rfl
    · rfl
    · decide
    · rfl
    · rfl
    · decide
    · rfl
    · exact fun u hu => ⟨zMp_err (by decide), rfl, rfl⟩
    · rfl
    · rfl
    · exact fun u => rfl
  have hla := hxl a h2
  by_cases h3 : 0 ≤ b ∧ b < 4
  rotate_left
  · have ek : kConv xl np xz i a b t = 1 := by unfold kConv; rw [if_neg (not_not_intro h1), if_neg (not_not_intro h2), if_pos h3]
    rw [ek]
    have hc := c_X6_convolve_1c l D cI (md 0) (md 1) (md 2) (md 3) (md 4) (md 5) (md 6) np th i a b t (by first | omega | assumption) (by first | omega | assumption) (by first | omega | assumption) (by first | omega | assumption) (by first | omega | assumption) (by first | omega | assumption) (by first | omega | assumption) (by first | omega | assumption)
    refine z_liftL (wr := [(md 1, .inl (cI, 256, .inl (zA xe))), (md 2, .inl (cI, 4, .inl (zA xl))), (md 3, .inl (cI, 8, .inl (zA xp))), (md 4, .inl (cI, 8, .inl (zA xz))), (md 5, .inl (cI, 8, .inl (zA xr))), (md 6, .inl (cI, 64, .inl (zA xm)))]) hc ?_ ?_ ?_ ?_ (zM cI md xe xl xp xz xr xm np th) [0] [] [1, 2, 3, 4, 5, 6] [6, 0, 1, 2, 3, 4, 5] ?_ ?_ ?_ ?_ ?_ ?_ ?_ _ _ _ (fun _ => (0, xe, xl, xm)) ?_ ?_ ?_ ?_
    · exact Nat.le_of_ble_eq_true rfl
    · exact Nat.le_of_ble_eq_true rfl
    · rfl
    · rfl
    · rfl
    · rfl
    · decide
    · rfl
    · rfl
    · decide
    · rfl
    · exact fun u hu => ⟨zMp_err (by decide), rfl, rfl⟩
    · rfl
    · rfl
    · exact fun u => rfl
  have hlb := hxl b h3
  by_cases h4 : 0 ≤ t ∧ t < 4
  rotate_left
  · have ek : kConv xl np xz i a b t = 1 := by unfold kConv; rw [if_neg (not_not_intro h1), if_neg (not_not_intro h2), if_neg (not_not_intro h3), if_pos h4]
    rw [ek]
    have hc := c_X6_convolve_1t l D cI (md 0) (md 1) (md 2) (md 3) (md 4) (md 5) (md 6) np th i a b t (by first | omega | assumption) (by first | omega | assumption) (by first | omega | assumption) (by first | omega | assumption) (by first | omega | assumption) (by first | omega | assumption) (by first | omega | assumption) (by first | omega | assumption) (by first | omega | assumption)
    refine z_liftL (wr := [(md 1, .inl (cI, 256, .inl (zA xe))), (md 2, .inl (cI, 4, .inl (zA xl))), (md 3, .inl (cI, 8, .inl (zA xp))), (md 4, .inl (cI, 8, .inl (zA xz))), (md 5, .inl (cI, 8, .inl (zA xr))), (md 6, .inl (cI, 64, .inl (zA xm)))]) hc ?_ ?_ ?_ ?_ (zM cI md xe xl xp xz xr xm np th) [0] [] [1, 2, 3, 4, 5, 6] [6, 0, 1, 2, 3, 4, 5] ?_ ?_ ?_ ?_ ?_ ?_ ?_ _ _ _ (fun _ => (0, xe, xl, xm)) ?_ ?_ ?_ ?_
    · exact Nat.le_of_ble_eq_true rfl
    · exact Nat.le_of_ble_eq_true rfl
    · rfl
    · rfl
    · rfl
    · rfl
    · decide
    · rfl
    · rfl
    · decide
    · rfl
    · exact fun u hu => ⟨zMp_err (by decide), rfl, rfl⟩
    · rfl
    · rfl
    · exact fun u => rfl
  have hlt := hxl t h4
  by_cases h5 : xz i < xl a
  · have ek : kConv xl np xz i a b t = 2 := by unfold kConv; rw [if_neg (not_not_intro h1), if_neg (not_not_intro h2), if_neg (not_not_intro h3), if_neg (not_not_intro h4), if_pos h5]
    rw [ek]
    have hc := c_X6_convolve_2a l D cI (md 0) (md 1) (md 2) (md 3) (md 4) (md 5) (md 6) np th xl xz i a b t (by first | omega | assumption) (by first | omega | assumption) (by first | omega | assumption) (by first | omega | assumption) (by first | omega | assumption) (by first | omega | assumption) (by first | omega | assumption) (by first | omega | assumption) (by first | omega | assumption) (by first | omega | assumption) (by first | omega | assumption) (by first | omega | assumption) (by first | omega | assumption)
    refine z_liftL (wr := [(md 1, .inl (cI, 256, .inl (zA xe))), (md 2, .inl (cI, 4, .inl (zA xl))), (md 3, .inl (cI, 8, .inl (zA xp))), (md 4, .inl (cI, 8, .inl (zA xz))), (md 5, .inl (cI, 8, .inl (zA xr))), (md 6, .inl (cI, 64, .inl (zA xm)))]) hc ?_ ?_ ?_ ?_ (zM cI md xe xl xp xz xr xm np th) [0] [2, 4] [1, 2, 3, 4, 5, 6] [6, 0, 1, 2, 3, 4, 5] ?_ ?_ ?_ ?_ ?_ ?_ ?_ _ _ _ (fun _ => (0, xe, xl, xm)) ?_ ?_ ?_ ?_
    · exact Nat.le_of_ble_eq_true rfl
    · exact Nat.le_of_ble_eq_true rfl
    · rfl
    · rfl
    · rfl
    · rfl
    · decide
    · rfl
    · rfl
    · decide
    · rfl
    · exact fun u hu => ⟨zMp_err (by decide), rfl, rfl⟩
    · rfl
    · rfl
    · exact fun u => rfl
  by_cases h6 : xz i < xl b
  · have ek : kConv xl np xz i a b t = 2 := by unfold kConv; rw [if_neg (not_not_intro h1), if_neg (not_not_intro h2), if_neg (not_not_intro h3), if_neg (not_not_intro h4), if_neg h5, if_pos h6]
    rw [ek]
    have hc := c_X6_convolve_2b l D cI (md 0) (md 1) (md 2) (md 3) (md 4) (md 5) (md 6) np th xl xz i a b t (by first | omega | assumption) (by first | omega | assumption) (by first | omega | assumption) (by first | omega | assumption) (by first | omega | assumption) (by first | omega | assumption) (by first | omega | assumption) (by first | omega | assumption) (by first | omega | assumption) (by first | omega | assumption) (by first | omega | assumption) (by first | omega | assumption) (by first | omega | assumption) (by first | omega | assumption)
    refine z_liftL (wr := [(md 1, .inl (cI, 256, .inl (zA xe))), (md 2, .inl (cI, 4, .inl (zA xl))), (md 3, .inl (cI, 8, .inl (zA xp))), (md 4, .inl (cI, 8, .inl (zA xz))), (md 5, .inl (cI, 8, .inl (zA xr))), (md 6, .inl (cI, 64, .inl (zA xm)))]) hc ?_ ?_ ?_ ?_ (zM cI md xe xl xp xz xr xm np th) [0] [2, 4] [1, 2, 3, 4, 5, 6] [6, 0, 1, 2, 3, 4, 5] ?_ ?_ ?_ ?_ ?_ ?_ ?_ _ _ _ (fun _ => (0, xe, xl, xm)) ?_ ?_ ?_ ?_
    · exact Nat.le_of_ble_eq_true rfl
    · exact Nat.le_of_ble_eq_true rfl
    · rfl
    · rfl
    · rfl
    · rfl
    · decide
    · rfl
    · rfl
    · decide
    · rfl
    · exact fun u hu => ⟨zMp_err (by decide), rfl, rfl⟩
    · rfl
    · rfl
    · exact fun u => rfl
  have ek : kConv xl np xz i a b t = 0 := by unfold kConv; rw [if_neg (not_not_intro h1), if_neg (not_not_intro h2), if_neg (not_not_intro h3), if_neg (not_not_intro h4), if_neg h5, if_neg h6]
  rw [ek]
  have hc := c_X6_convolve_ok l D cI (md 0) (md 1) (md 2) (md 3) (md 4) (md 5) (md 6) np th xe xl xm xp xz i a b t (by first | omega | assumption) (by first | omega | assumption) (by first | omega | assumption) (by first | omega | assumption) (by first | omega | assumption) (by first | omega | assumption) (by first | omega | assumption) (by first | omega | assumption) (by first | omega | assumption) (by first | omega | assumption) (by first | omega | assumption) (by first | omega | assumption) (by first | omega | assumption) hxe (by first | omega | assumption) (by first | omega | assumption)
  refine z_liftL (wr := [(md 3, .inl (cI, 8, .inl (zA xp))), (md 4, .inl (cI, 8, .inl (zA xz))), (md 5, .inl (cI, 8, .inl (zA xr)))]) hc ?_ ?_ ?_ ?_ (zM cI md xe xl xp xz xr xm np th) [0, 1, 2, 6] [3, 4] [3, 4, 5] [3, 4, 5, 0, 1, 2, 6] ?_ ?_ ?_ ?_ ?_ ?_ ?_ _ _ _ (fun (xe2, xm2) => (xz i, xe2, zU xl t (xz i), xm2)) ?_ ?_ ?_ ?_
  · exact Nat.le_of_ble_eq_true rfl
  · exact Nat.le_of_ble_eq_true rfl
  · rfl
  · rfl
  · rfl
  · rfl
  · decide
  · rfl
  · rfl
  · decide
  · rfl
  · exact fun u hu => by
      obtain ⟨xe2, xm2⟩ := u
      exact ⟨zMp_mu rfl rfl hu.1 hu.2, rfl, rfl⟩
  · rfl
  · rfl
  · exact fun u => rfl

set_option maxHeartbeats 1000000 in
set_option maxRecDepth 4000 in
theorem M_convolved (l : Launch) (D : va_G) (cI : ClassId) (md : Nat → Nat) (xe xl xp xz xr xm : Int → Int) (np th : Int) (i : Int) (a : Int) (b : Int) (x : Int) (hMI : zMI xe xl xp xz xr np) (ha_i : -2147483648 ≤ i ∧ i ≤ 2147483647) (ha_a : -2147483648 ≤ a ∧ a ≤ 2147483647) (ha_b : -2147483648 ≤ b ∧ b ≤ 2147483647) (ha_x : -2147483648 ≤ x ∧ x ≤ 2147483647) : zC l yX6_convolved wsX6_convolved zRM D [(cI, .int)] (zM cI md xe xl xp xz xr xm np th) [] [.ref (md 0), .int (zI i), .int (zI a), .int (zI b), .int (zI x)] (S := Int × (Int → Int) × (Int → Int) × (Int → Int)) (zMp (kConvd xl np xz i a b x) (cyc (xp i) (xz i) (fun j => zGm xe xl a j % xp i) (fun j => zGm xe xl b j % xp i) x) False xe xl 0 0 (fun _ => 0)) (fun u => some (.int (zI u.1))) (fun u => zM cI md u.2.1 u.2.2.1 xp xz xr u.2.2.2 np (kConvd xl np xz i a b x)) := by
  obtain ⟨hnp, hxl, hxe, hpl⟩ := hMI
  by_cases h1 : 0 ≤ i ∧ i < np
  rotate_left
  · have ek : kConvd xl np xz i a b x = 1 := by unfold kConvd; rw [if_pos h1]
    rw [ek]
    have hc := c_X6_convolved_1a l D cI (md 0) (md 1) (md 2) (md 3) (md 4) (md 5) (md 6) np th i a b x (by first | omega | assumption) (by first | omega | assumption) (by first | omega | assumption) (by first | omega | assumption) (by first | omega | assumption) (by first | omega | assumption)
    refine z_liftL (wr := [(md 1, .inl (cI, 256, .inl (zA xe))), (md 2, .inl (cI, 4, .inl (zA xl))), (md 3, .inl (cI, 8, .inl (zA xp))), (md 4, .inl (cI, 8, .inl (zA xz))), (md 5, .inl (cI, 8, .inl (zA xr))), (md 6, .inl (cI, 64, .inl (zA xm)))]) hc ?_ ?_ ?_ ?_ (zM cI md xe xl xp xz xr xm np th) [0] [] [1, 2, 3, 4, 5, 6] [6, 0, 1, 2, 3, 4, 5] ?_ ?_ ?_ ?_ ?_ ?_ ?_ _ _ _ (fun _ => (0, xe, xl, xm)) ?_ ?_ ?_ ?_
    · exact Nat.le_of_ble_eq_true rfl
    · exact Nat.le_of_ble_eq_true rfl
    · rfl
    · rfl
    · rfl
    · rfl
    · decide
    · rfl
    · rfl
    · decide
    · rfl
    · exact fun u hu => ⟨zMp_err (by decide), rfl, rfl⟩
    · rfl
    · rfl
    · exact fun u => rfl
  obtain ⟨hpn, hxr⟩ := hpl i h1
  obtain ⟨⟨hp3, hp4, hp5⟩, hp6, hn1, hn2, hn3⟩ := id hpn
  have hrt_ : 0 ≤ xr i ∧ xr i ≤ 10000 := by rw [hxr]; have := root_rng hpn; omega
  by_cases h2 : 0 ≤ a ∧ a < 4
  rotate_left
  · have ek : kConvd xl np xz i a b x = 1 := by unfold kConvd; rw [if_neg (not_not_intro h1), if_pos h2]
    rw [ek]
    have hc := c_X6_convolved_1b l D cI (md 0) (md 1) (md 2) (md 3) (md 4) (md 5) (md 6) np th xz i a b x (by first | omega | assumption) (by first | omega | assumption) (by first | omega | assumption) (by first | omega | assumption) (by first | omega | assumption) (by first | omega | assumption) (by first | omega | assumption) (by first | omega | assumption)
    refine z_liftL (wr := [(md 1, .inl (cI, 256, .inl (zA xe))), (md 2, .inl (cI, 4, .inl (zA xl))), (md 3, .inl (cI, 8, .inl (zA xp))), (md 4, .inl (cI, 8, .inl (zA xz))), (md 5, .inl (cI, 8, .inl (zA xr))), (md 6, .inl (cI, 64, .inl (zA xm)))]) hc ?_ ?_ ?_ ?_ (zM cI md xe xl xp xz xr xm np th) [0] [4] [1, 2, 3, 4, 5, 6] [6, 0, 1, 2, 3, 4, 5] ?_ ?_ ?_ ?_ ?_ ?_ ?_ _ _ _ (fun _ => (0, xe, xl, xm)) ?_ ?_ ?_ ?_
    · exact Nat.le_of_ble_eq_true rfl
    · exact Nat.le_of_ble_eq_true rfl
    · rfl
    · rfl
    · rfl
    · rfl
    · decide
    · rfl
    · rfl
    · decide
    · rfl
    · exact fun u hu => ⟨zMp_err (by decide), rfl, rfl⟩
    · rfl
    · rfl
    · exact fun u => rfl
  have hla := hxl a h2
  by_cases h3 : 0 ≤ b ∧ b < 4
  rotate_left
  · have ek : kConvd xl np xz i a b x = 1 := by unfold kConvd; rw [if_neg (not_not_intro h1), if_neg (not_not_intro h2), if_pos h3]
    rw [ek]
    have hc := c_X6_convolved_1c l D cI (md 0) (md 1) (md 2) (md 3) (md 4) (md 5) (md 6) np th xz i a b x (by first | omega | assumption) (by first | omega | assumption) (by first | omega | assumption) (by first | omega | assumption) (by first | omega | assumption) (by first | omega | assumption) (by first | omega | assumption) (by first | omega | assumption) (by first | omega | assumption)
    refine z_liftL (wr := [(md 1, .inl (cI, 256, .inl (zA xe))), (md 2, .inl (cI, 4, .inl (zA xl))), (md 3, .inl (cI, 8, .inl (zA xp))), (md 4, .inl (cI, 8, .inl (zA xz))), (md 5, .inl (cI, 8, .inl (zA xr))), (md 6, .inl (cI, 64, .inl (zA xm)))]) hc ?_ ?_ ?_ ?_ (zM cI md xe xl xp xz xr xm np th) [0] [4] [1, 2, 3, 4, 5, 6] [6, 0, 1, 2, 3, 4, 5] ?_ ?_ ?_ ?_ ?_ ?_ ?_ _ _ _ (fun _ => (0, xe, xl, xm)) ?_ ?_ ?_ ?_
    · exact Nat.le_of_ble_eq_true rfl
    · exact Nat.le_of_ble_eq_true rfl
    · rfl
    · rfl
    · rfl
    · rfl
    · decide
    · rfl
    · rfl
    · decide
    · rfl
    · exact fun u hu => ⟨zMp_err (by decide), rfl, rfl⟩
    · rfl
    · rfl
    · exact fun u => rfl
  have hlb := hxl b h3
  by_cases h4 : 0 ≤ x ∧ x < xz i
  rotate_left
  · have ek : kConvd xl np xz i a b x = 1 := by unfold kConvd; rw [if_neg (not_not_intro h1), if_neg (not_not_intro h2), if_neg (not_not_intro h3), if_pos h4]
    rw [ek]
    by_cases z0 : x < 0
    · skip
      have hc := c_X6_convolved_1x l D cI (md 0) (md 1) (md 2) (md 3) (md 4) (md 5) (md 6) np th i a b x (by first | omega | assumption) (by first | omega | assumption) (by first | omega | assumption) (by first | omega | assumption) (by first | omega | assumption) (by first | omega | assumption) (by first | omega | assumption) (by first | omega | assumption) (by first | omega | assumption)
      refine z_liftL (wr := [(md 1, .inl (cI, 256, .inl (zA xe))), (md 2, .inl (cI, 4, .inl (zA xl))), (md 3, .inl (cI, 8, .inl (zA xp))), (md 4, .inl (cI, 8, .inl (zA xz))), (md 5, .inl (cI, 8, .inl (zA xr))), (md 6, .inl (cI, 64, .inl (zA xm)))]) hc ?_ ?_ ?_ ?_ (zM cI md xe xl xp xz xr xm np th) [0] [] [1, 2, 3, 4, 5, 6] [6, 0, 1, 2, 3, 4, 5] ?_ ?_ ?_ ?_ ?_ ?_ ?_ _ _ _ (fun _ => (0, xe, xl, xm)) ?_ ?_ ?_ ?_
      · exact Nat.le_of_ble_eq_true rfl
      · exact Nat.le_of_ble_eq_true rfl
      · rfl
      · rfl
      · rfl
      · rfl
      · decide
      · rfl
      · rfl
      · decide
      · rfl
      · exact fun u hu => ⟨zMp_err (by decide), rfl, rfl⟩
      · rfl
      · rfl
      · exact fun u => rfl
    have hc := c_X6_convolved_1y l D cI (md 0) (md 1) (md 2) (md 3) (md 4) (md 5) (md 6) np th xz i a b x (by first | omega | assumption) (by first | omega | assumption) (by first | omega | assumption) (by first | omega | assumption) (by first | omega | assumption) (by first | omega | assumption) (by first | omega | assumption) (by first | omega | assumption) (by first | omega | assumption) (by first | omega | assumption)
    refine z_liftL (wr := [(md 1, .inl (cI, 256, .inl (zA xe))), (md 2, .inl (cI, 4, .inl (zA xl))), (md 3, .inl (cI, 8, .inl (zA xp))), (md 4, .inl (cI, 8, .inl (zA xz))), (md 5, .inl (cI, 8, .inl (zA xr))), (md 6, .inl (cI, 64, .inl (zA xm)))]) hc ?_ ?_ ?_ ?_ (zM cI md xe xl xp xz xr xm np th) [0] [4] [1, 2, 3, 4, 5, 6] [6, 0, 1, 2, 3, 4, 5] ?_ ?_ ?_ ?_ ?_ ?_ ?_ _ _ _ (fun _ => (0, xe, xl, xm)) ?_ ?_ ?_ ?_
    · exact Nat.le_of_ble_eq_true rfl
    · exact Nat.le_of_ble_eq_true rfl
    · rfl
    · rfl
    · rfl
    · rfl
    · decide
    · rfl
    · rfl
    · decide
    · rfl
    · exact fun u hu => ⟨zMp_err (by decide), rfl, rfl⟩
    · rfl
    · rfl
    · exact fun u => rfl
  by_cases h5 : xz i < xl a
  · have ek : kConvd xl np xz i a b x = 2 := by unfold kConvd; rw [if_neg (not_not_intro h1), if_neg (not_not_intro h2), if_neg (not_not_intro h3), if_neg (not_not_intro h4), if_pos h5]
    rw [ek]
    have hc := c_X6_convolved_2a l D cI (md 0) (md 1) (md 2) (md 3) (md 4) (md 5) (md 6) np th xl xz i a b x (by first | omega | assumption) (by first | omega | assumption) (by first | omega | assumption) (by first | omega | assumption) (by first | omega | assumption) (by first | omega | assumption) (by first | omega | assumption) (by first | omega | assumption) (by first | omega | assumption) (by first | omega | assumption) (by first | omega | assumption) (by first | omega | assumption) (by first | omega | assumption)
    refine z_liftL (wr := [(md 1, .inl (cI, 256, .inl (zA xe))), (md 2, .inl (cI, 4, .inl (zA xl))), (md 3, .inl (cI, 8, .inl (zA xp))), (md 4, .inl (cI, 8, .inl (zA xz))), (md 5, .inl (cI, 8, .inl (zA xr))), (md 6, .inl (cI, 64, .inl (zA xm)))]) hc ?_ ?_ ?_ ?_ (zM cI md xe xl xp xz xr xm np th) [0] [2, 4] [1, 2, 3, 4, 5, 6] [6, 0, 1, 2, 3, 4, 5] ?_ ?_ ?_ ?_ ?_ ?_ ?_ _ _ _ (fun _ => (0, xe, xl, xm)) ?_ ?_ ?_ ?_
    · exact Nat.le_of_ble_eq_true rfl
    · exact Nat.le_of_ble_eq_true rfl
    · rfl
    · rfl
    · rfl
    · rfl
    · decide
    · rfl
    · rfl
    · decide
    · rfl
    · exact fun u hu => ⟨zMp_err (by decide), rfl, rfl⟩
    · rfl
    · rfl
    · exact fun u => rfl
  by_cases h6 : xz i < xl b
  · have ek : kConvd xl np xz i a b x = 2 := by unfold kConvd; rw [if_neg (not_not_intro h1), if_neg (not_not_intro h2), if_neg (not_not_intro h3), if_neg (not_not_intro h4), if_neg h5, if_pos h6]
    rw [ek]
    have hc := c_X6_convolved_2b l D cI (md 0) (md 1) (md 2) (md 3) (md 4) (md 5) (md 6) np th xl xz i a b x (by first | omega | assumption) (by first | omega | assumption) (by first | omega | assumption) (by first | omega | assumption) (by first | omega | assumption) (by first | omega | assumption) (by first | omega | assumption) (by first | omega | assumption) (by first | omega | assumption) (by first | omega | assumption) (by first | omega | assumption) (by first | omega | assumption) (by first | omega | assumption) (by first | omega | assumption)
    refine z_liftL (wr := [(md 1, .inl (cI, 256, .inl (zA xe))), (md 2, .inl (cI, 4, .inl (zA xl))), (md 3, .inl (cI, 8, .inl (zA xp))), (md 4, .inl (cI, 8, .inl (zA xz))), (md 5, .inl (cI, 8, .inl (zA xr))), (md 6, .inl (cI, 64, .inl (zA xm)))]) hc ?_ ?_ ?_ ?_ (zM cI md xe xl xp xz xr xm np th) [0] [2, 4] [1, 2, 3, 4, 5, 6] [6, 0, 1, 2, 3, 4, 5] ?_ ?_ ?_ ?_ ?_ ?_ ?_ _ _ _ (fun _ => (0, xe, xl, xm)) ?_ ?_ ?_ ?_
    · exact Nat.le_of_ble_eq_true rfl
    · exact Nat.le_of_ble_eq_true rfl
    · rfl
    · rfl
    · rfl
    · rfl
    · decide
    · rfl
    · rfl
    · decide
    · rfl
    · exact fun u hu => ⟨zMp_err (by decide), rfl, rfl⟩
    · rfl
    · rfl
    · exact fun u => rfl
  have ek : kConvd xl np xz i a b x = 0 := by unfold kConvd; rw [if_neg (not_not_intro h1), if_neg (not_not_intro h2), if_neg (not_not_intro h3), if_neg (not_not_intro h4), if_neg h5, if_neg h6]
  rw [ek]
  have hc := c_X6_convolved_ok l D cI (md 0) (md 1) (md 2) (md 3) (md 4) (md 5) (md 6) np th xe xl xp xz i a b x (by first | omega | assumption) (by first | omega | assumption) (by first | omega | assumption) (by first | omega | assumption) (by first | omega | assumption) (by first | omega | assumption) (by first | omega | assumption) (by first | omega | assumption) (by first | omega | assumption) (by first | omega | assumption) (by first | omega | assumption) (by first | omega | assumption) hxe (by first | omega | assumption) (by first | omega | assumption) (by first | omega | assumption)
  refine z_liftL (wr := [(md 1, .inl (cI, 256, .inl (zA xe))), (md 2, .inl (cI, 4, .inl (zA xl))), (md 3, .inl (cI, 8, .inl (zA xp))), (md 4, .inl (cI, 8, .inl (zA xz))), (md 5, .inl (cI, 8, .inl (zA xr))), (md 6, .inl (cI, 64, .inl (zA xm)))]) hc ?_ ?_ ?_ ?_ (zM cI md xe xl xp xz xr xm np th) [0] [1, 2, 3, 4] [1, 2, 3, 4, 5, 6] [6, 0, 1, 2, 3, 4, 5] ?_ ?_ ?_ ?_ ?_ ?_ ?_ _ _ _ (fun _ => (cyc (xp i) (xz i) (fun j => zGm xe xl a j % xp i) (fun j => zGm xe xl b j % xp i) x, xe, xl, xm)) ?_ ?_ ?_ ?_
  · exact Nat.le_of_ble_eq_true rfl
  · exact Nat.le_of_ble_eq_true rfl
  · rfl
  · rfl
  · rfl
  · rfl
  · decide
  · rfl
  · rfl
  · decide
  · rfl
  · exact fun u hu => ⟨zMp_ro, rfl, rfl⟩
  · rfl
  · rfl
  · exact fun u => rfl

set_option maxHeartbeats 1000000 in
set_option maxRecDepth 4000 in
theorem M_filter (l : Launch) (D : va_G) (cI : ClassId) (md : Nat → Nat) (xe xl xp xz xr xm : Int → Int) (np th : Int) (a : Int) (b : Int) (t : Int) (bl : Int) (sv : Int) (hMI : zMI xe xl xp xz xr np) (ha_a : -2147483648 ≤ a ∧ a ≤ 2147483647) (ha_b : -2147483648 ≤ b ∧ b ≤ 2147483647) (ha_t : -2147483648 ≤ t ∧ t ≤ 2147483647) (ha_bl : -2147483648 ≤ bl ∧ bl ≤ 2147483647) (ha_sv : -2147483648 ≤ sv ∧ sv ≤ 2147483647) (hsv : 0 ≤ sv ∧ sv ≤ 1) : zC l yX6_filter wsX6_filter zRM D [(cI, .int)] (zM cI md xe xl xp xz xr xm np th) [] [.ref (md 0), .int (zI a), .int (zI b), .int (zI t), .int (zI bl), .int (zI sv)] (S := Int × (Int → Int) × (Int → Int) × (Int → Int)) (zMp (kFilter (zGm xe xl) xl a b t bl) (xl a + xl b - 1) True xe xl t (xl a + xl b - 1) (zLn (zGm xe xl) xl a b)) (fun u => some (.int (zI u.1))) (fun u => zM cI md u.2.1 u.2.2.1 xp xz xr u.2.2.2 np (kFilter (zGm xe xl) xl a b t bl)) := by
  obtain ⟨hnp, hxl, hxe, hpl⟩ := hMI
  by_cases h1 : 0 ≤ a ∧ a < 4
  rotate_left
  · have ek : kFilter (zGm xe xl) xl a b t bl = 1 := by unfold kFilter; rw [if_pos h1]
    rw [ek]
    have hc := c_X6_filter_1a l D cI (md 0) (md 1) (md 2) (md 3) (md 4) (md 5) (md 6) np th a b t bl sv (by first | omega | assumption) (by first | omega | assumption) (by first | omega | assumption) (by first | omega | assumption) (by first | omega | assumption) (by first | omega | assumption) (by first | omega | assumption)
    refine z_liftL (wr := [(md 1, .inl (cI, 256, .inl (zA xe))), (md 2, .inl (cI, 4, .inl (zA xl))), (md 3, .inl (cI, 8, .inl (zA xp))), (md 4, .inl (cI, 8, .inl (zA xz))), (md 5, .inl (cI, 8, .inl (zA xr))), (md 6, .inl (cI, 64, .inl (zA xm)))]) hc ?_ ?_ ?_ ?_ (zM cI md xe xl xp xz xr xm np th) [0] [] [1, 2, 3, 4, 5, 6] [6, 0, 1, 2, 3, 4, 5] ?_ ?_ ?_ ?_ ?_ ?_ ?_ _ _ _ (fun _ => (0, xe, xl, xm)) ?_ ?_ ?_ ?_
    · exact Nat.le_of_ble_eq_true rfl
    · exact Nat.le_of_ble_eq_true rfl
    · rfl
    · rfl
    · rfl
    · rfl
    · decide
    · rfl
    · rfl
    · decide
    · rfl
    · exact fun u hu => ⟨zMp_err (by decide), rfl, rfl⟩
    · rfl
    · rfl
    · exact fun u => rfl
  have hla := hxl a h1
  by_cases h2 : 0 ≤ b ∧ b < 4
  rotate_left
  · have ek : kFilter (zGm xe xl) xl a b t bl = 1 := by unfold kFilter; rw [if_neg (not_not_intro h1), if_pos h2]
    rw [ek]
    have hc := c_X6_filter_1b l D cI (md 0) (md 1) (md 2) (md 3) (md 4) (md 5) (md 6) np th a b t bl sv (by first | omega | assumption) (by first | omega | assumption) (by first | omega | assumption) (by first | omega | assumption) (by first | omega | assumption) (by first | omega | assumption) (by first | omega | assumption) (by first | omega | assumption)
    refine z_liftL (wr := [(md 1, .inl (cI, 256, .inl (zA xe))), (md 2, .inl (cI, 4, .inl (zA xl))), (md 3, .inl (cI, 8, .inl (zA xp))), (md 4, .inl (cI, 8, .inl (zA xz))), (md 5, .inl (cI, 8, .inl (zA xr))), (md 6, .inl (cI, 64, .inl (zA xm)))]) hc ?_ ?_ ?_ ?_ (zM cI md xe xl xp xz xr xm np th) [0] [] [1, 2, 3, 4, 5, 6] [6, 0, 1, 2, 3, 4, 5] ?_ ?_ ?_ ?_ ?_ ?_ ?_ _ _ _ (fun _ => (0, xe, xl, xm)) ?_ ?_ ?_ ?_
    · exact Nat.le_of_ble_eq_true rfl
    · exact Nat.le_of_ble_eq_true rfl
    · rfl
    · rfl
    · rfl
    · rfl
    · decide
    · rfl
    · rfl
    · decide
    · rfl
    · exact fun u hu => ⟨zMp_err (by decide), rfl, rfl⟩
    · rfl
    · rfl
    · exact fun u => rfl
  have hlb := hxl b h2
  by_cases h3 : 0 ≤ t ∧ t < 4
  rotate_left
  · have ek : kFilter (zGm xe xl) xl a b t bl = 1 := by unfold kFilter; rw [if_neg (not_not_intro h1), if_neg (not_not_intro h2), if_pos h3]
    rw [ek]
    have hc := c_X6_filter_1c l D cI (md 0) (md 1) (md 2) (md 3) (md 4) (md 5) (md 6) np th a b t bl sv (by first | omega | assumption) (by first | omega | assumption) (by first | omega | assumption) (by first | omega | assumption) (by first | omega | assumption) (by first | omega | assumption) (by first | omega | assumption) (by first | omega | assumption) (by first | omega | assumption)
    refine z_liftL (wr := [(md 1, .inl (cI, 256, .inl (zA xe))), (md 2, .inl (cI, 4, .inl (zA xl))), (md 3, .inl (cI, 8, .inl (zA xp))), (md 4, .inl (cI, 8, .inl (zA xz))), (md 5, .inl (cI, 8, .inl (zA xr))), (md 6, .inl (cI, 64, .inl (zA xm)))]) hc ?_ ?_ ?_ ?_ (zM cI md xe xl xp xz xr xm np th) [0] [] [1, 2, 3, 4, 5, 6] [6, 0, 1, 2, 3, 4, 5] ?_ ?_ ?_ ?_ ?_ ?_ ?_ _ _ _ (fun _ => (0, xe, xl, xm)) ?_ ?_ ?_ ?_
    · exact Nat.le_of_ble_eq_true rfl
    · exact Nat.le_of_ble_eq_true rfl
    · rfl
    · rfl
    · rfl
    · rfl
    · decide
    · rfl
    · rfl
    · decide
    · rfl
    · exact fun u hu => ⟨zMp_err (by decide), rfl, rfl⟩
    · rfl
    · rfl
    · exact fun u => rfl
  have hlt := hxl t h3
  by_cases h4 : 1 ≤ bl ∧ bl ≤ 32
  rotate_left
  · have ek : kFilter (zGm xe xl) xl a b t bl = 2 := by unfold kFilter; rw [if_neg (not_not_intro h1), if_neg (not_not_intro h2), if_neg (not_not_intro h3), if_pos h4]
    rw [ek]
    by_cases z0 : bl < 1
    · skip
      have hc := c_X6_filter_2a l D cI (md 0) (md 1) (md 2) (md 3) (md 4) (md 5) (md 6) np th xe xl a b t bl sv (by first | omega | assumption) (by first | omega | assumption) (by first | omega | assumption) (by first | omega | assumption) (by first | omega | assumption) (by first | omega | assumption) (by first | omega | assumption) (by first | omega | assumption) (by first | omega | assumption) (by first | omega | assumption) (by first | omega | assumption) hxe (by first | omega | assumption)
      refine z_liftL (wr := [(md 1, .inl (cI, 256, .inl (zA xe))), (md 2, .inl (cI, 4, .inl (zA xl))), (md 3, .inl (cI, 8, .inl (zA xp))), (md 4, .inl (cI, 8, .inl (zA xz))), (md 5, .inl (cI, 8, .inl (zA xr))), (md 6, .inl (cI, 64, .inl (zA xm)))]) hc ?_ ?_ ?_ ?_ (zM cI md xe xl xp xz xr xm np th) [0] [1, 2] [1, 2, 3, 4, 5, 6] [6, 0, 1, 2, 3, 4, 5] ?_ ?_ ?_ ?_ ?_ ?_ ?_ _ _ _ (fun _ => (0, xe, xl, xm)) ?_ ?_ ?_ ?_
      · exact Nat.le_of_ble_eq_true rfl
      · exact Nat.le_of_ble_eq_true rfl
      · rfl
      · rfl
      · rfl
      · rfl
      · decide
      · rfl
      · rfl
      · decide
      · rfl
      · exact fun u hu => ⟨zMp_err (by decide), rfl, rfl⟩
      · rfl
      · rfl
      · exact fun u => rfl
    have hc := c_X6_filter_2b l D cI (md 0) (md 1) (md 2) (md 3) (md 4) (md 5) (md 6) np th xe xl a b t bl sv (by first | omega | assumption) (by first | omega | assumption) (by first | omega | assumption) (by first | omega | assumption) (by first | omega | assumption) (by first | omega | assumption) (by first | omega | assumption) (by first | omega | assumption) (by first | omega | assumption) (by first | omega | assumption) (by first | omega | assumption) hxe (by first | omega | assumption)
    refine z_liftL (wr := [(md 1, .inl (cI, 256, .inl (zA xe))), (md 2, .inl (cI, 4, .inl (zA xl))), (md 3, .inl (cI, 8, .inl (zA xp))), (md 4, .inl (cI, 8, .inl (zA xz))), (md 5, .inl (cI, 8, .inl (zA xr))), (md 6, .inl (cI, 64, .inl (zA xm)))]) hc ?_ ?_ ?_ ?_ (zM cI md xe xl xp xz xr xm np th) [0] [1, 2] [1, 2, 3, 4, 5, 6] [6, 0, 1, 2, 3, 4, 5] ?_ ?_ ?_ ?_ ?_ ?_ ?_ _ _ _ (fun _ => (0, xe, xl, xm)) ?_ ?_ ?_ ?_
    · exact Nat.le_of_ble_eq_true rfl
    · exact Nat.le_of_ble_eq_true rfl
    · rfl
    · rfl
    · rfl
    · rfl
    · decide
    · rfl
    · rfl
    · decide
    · rfl
    · exact fun u hu => ⟨zMp_err (by decide), rfl, rfl⟩
    · rfl
    · rfl
    · exact fun u => rfl
  by_cases h5 : zWb (zGm xe xl) xl (-99) 99 a = true
  rotate_left
  · have ek : kFilter (zGm xe xl) xl a b t bl = 2 := by unfold kFilter; rw [if_neg (not_not_intro h1), if_neg (not_not_intro h2), if_neg (not_not_intro h3), if_neg (not_not_intro h4), if_pos h5]
    rw [ek]
    have hc := c_X6_filter_2c l D cI (md 0) (md 1) (md 2) (md 3) (md 4) (md 5) (md 6) np th xe xl a b t bl sv (by first | omega | assumption) (by first | omega | assumption) (by first | omega | assumption) (by first | omega | assumption) (by first | omega | assumption) (by first | omega | assumption) (by first | omega | assumption) (by first | omega | assumption) (by first | omega | assumption) (by first | omega | assumption) (by first | omega | assumption) hxe (by first | omega | assumption) (fun q => h5 ((zWb_gm (by have := hxl a (by omega); omega)).mpr q))
    refine z_liftL (wr := [(md 1, .inl (cI, 256, .inl (zA xe))), (md 2, .inl (cI, 4, .inl (zA xl))), (md 3, .inl (cI, 8, .inl (zA xp))), (md 4, .inl (cI, 8, .inl (zA xz))), (md 5, .inl (cI, 8, .inl (zA xr))), (md 6, .inl (cI, 64, .inl (zA xm)))]) hc ?_ ?_ ?_ ?_ (zM cI md xe xl xp xz xr xm np th) [0] [1, 2] [1, 2, 3, 4, 5, 6] [6, 0, 1, 2, 3, 4, 5] ?_ ?_ ?_ ?_ ?_ ?_ ?_ _ _ _ (fun _ => (0, xe, xl, xm)) ?_ ?_ ?_ ?_
    · exact Nat.le_of_ble_eq_true rfl
    · exact Nat.le_of_ble_eq_true rfl
    · rfl
    · rfl
    · rfl
    · rfl
    · decide
    · rfl
    · rfl
    · decide
    · rfl
    · exact fun u hu => ⟨zMp_err (by decide), rfl, rfl⟩
    · rfl
    · rfl
    · exact fun u => rfl
  by_cases h6 : zWb (zGm xe xl) xl (-99) 99 b = true
  rotate_left
  · have ek : kFilter (zGm xe xl) xl a b t bl = 2 := by unfold kFilter; rw [if_neg (not_not_intro h1), if_neg (not_not_intro h2), if_neg (not_not_intro h3), if_neg (not_not_intro h4), if_neg (not_not_intro h5), if_pos h6]
    rw [ek]
    have hc := c_X6_filter_2d l D cI (md 0) (md 1) (md 2) (md 3) (md 4) (md 5) (md 6) np th xe xl a b t bl sv (by first | omega | assumption) (by first | omega | assumption) (by first | omega | assumption) (by first | omega | assumption) (by first | omega | assumption) (by first | omega | assumption) (by first | omega | assumption) (by first | omega | assumption) (by first | omega | assumption) (by first | omega | assumption) (by first | omega | assumption) hxe (by first | omega | assumption) ((zWb_gm (by have := hxl a (by omega); omega)).mp h5) (fun q => h6 ((zWb_gm (by have := hxl b (by omega); omega)).mpr q))
    refine z_liftL (wr := [(md 1, .inl (cI, 256, .inl (zA xe))), (md 2, .inl (cI, 4, .inl (zA xl))), (md 3, .inl (cI, 8, .inl (zA xp))), (md 4, .inl (cI, 8, .inl (zA xz))), (md 5, .inl (cI, 8, .inl (zA xr))), (md 6, .inl (cI, 64, .inl (zA xm)))]) hc ?_ ?_ ?_ ?_ (zM cI md xe xl xp xz xr xm np th) [0] [1, 2] [1, 2, 3, 4, 5, 6] [6, 0, 1, 2, 3, 4, 5] ?_ ?_ ?_ ?_ ?_ ?_ ?_ _ _ _ (fun _ => (0, xe, xl, xm)) ?_ ?_ ?_ ?_
    · exact Nat.le_of_ble_eq_true rfl
    · exact Nat.le_of_ble_eq_true rfl
    · rfl
    · rfl
    · rfl
    · rfl
    · decide
    · rfl
    · rfl
    · decide
    · rfl
    · exact fun u hu => ⟨zMp_err (by decide), rfl, rfl⟩
    · rfl
    · rfl
    · exact fun u => rfl
  by_cases h7 : xl a = 0
  · have ek : kFilter (zGm xe xl) xl a b t bl = 3 := by unfold kFilter; rw [if_neg (not_not_intro h1), if_neg (not_not_intro h2), if_neg (not_not_intro h3), if_neg (not_not_intro h4), if_neg (not_not_intro h5), if_neg (not_not_intro h6), if_pos h7]
    rw [ek]
    have hc := c_X6_filter_3a l D cI (md 0) (md 1) (md 2) (md 3) (md 4) (md 5) (md 6) np th xe xl a b t bl sv (by first | omega | assumption) (by first | omega | assumption) (by first | omega | assumption) (by first | omega | assumption) (by first | omega | assumption) (by first | omega | assumption) (by first | omega | assumption) (by first | omega | assumption) (by first | omega | assumption) (by first | omega | assumption) (by first | omega | assumption) hxe (by first | omega | assumption) ((zWb_gm (by have := hxl a (by omega); omega)).mp h5) ((zWb_gm (by have := hxl b (by omega); omega)).mp h6) (by first | omega | assumption)
    refine z_liftL (wr := [(md 1, .inl (cI, 256, .inl (zA xe))), (md 2, .inl (cI, 4, .inl (zA xl))), (md 3, .inl (cI, 8, .inl (zA xp))), (md 4, .inl (cI, 8, .inl (zA xz))), (md 5, .inl (cI, 8, .inl (zA xr))), (md 6, .inl (cI, 64, .inl (zA xm)))]) hc ?_ ?_ ?_ ?_ (zM cI md xe xl xp xz xr xm np th) [0] [1, 2] [1, 2, 3, 4, 5, 6] [6, 0, 1, 2, 3, 4, 5] ?_ ?_ ?_ ?_ ?_ ?_ ?_ _ _ _ (fun _ => (0, xe, xl, xm)) ?_ ?_ ?_ ?_
    · exact Nat.le_of_ble_eq_true rfl
    · exact Nat.le_of_ble_eq_true rfl
    · rfl
    · rfl
    · rfl
    · rfl
    · decide
    · rfl
    · rfl
    · decide
    · rfl
    · exact fun u hu => ⟨zMp_err (by decide), rfl, rfl⟩
    · rfl
    · rfl
    · exact fun u => rfl
  by_cases h8 : xl b = 0
  · have ek : kFilter (zGm xe xl) xl a b t bl = 3 := by unfold kFilter; rw [if_neg (not_not_intro h1), if_neg (not_not_intro h2), if_neg (not_not_intro h3), if_neg (not_not_intro h4), if_neg (not_not_intro h5), if_neg (not_not_intro h6), if_neg h7, if_pos h8]
    rw [ek]
    have hc := c_X6_filter_3b l D cI (md 0) (md 1) (md 2) (md 3) (md 4) (md 5) (md 6) np th xe xl a b t bl sv (by first | omega | assumption) (by first | omega | assumption) (by first | omega | assumption) (by first | omega | assumption) (by first | omega | assumption) (by first | omega | assumption) (by first | omega | assumption) (by first | omega | assumption) (by first | omega | assumption) (by first | omega | assumption) (by first | omega | assumption) hxe (by first | omega | assumption) ((zWb_gm (by have := hxl a (by omega); omega)).mp h5) ((zWb_gm (by have := hxl b (by omega); omega)).mp h6) (by first | omega | assumption) (by first | omega | assumption)
    refine z_liftL (wr := [(md 1, .inl (cI, 256, .inl (zA xe))), (md 2, .inl (cI, 4, .inl (zA xl))), (md 3, .inl (cI, 8, .inl (zA xp))), (md 4, .inl (cI, 8, .inl (zA xz))), (md 5, .inl (cI, 8, .inl (zA xr))), (md 6, .inl (cI, 64, .inl (zA xm)))]) hc ?_ ?_ ?_ ?_ (zM cI md xe xl xp xz xr xm np th) [0] [1, 2] [1, 2, 3, 4, 5, 6] [6, 0, 1, 2, 3, 4, 5] ?_ ?_ ?_ ?_ ?_ ?_ ?_ _ _ _ (fun _ => (0, xe, xl, xm)) ?_ ?_ ?_ ?_
    · exact Nat.le_of_ble_eq_true rfl
    · exact Nat.le_of_ble_eq_true rfl
    · rfl
    · rfl
    · rfl
    · rfl
    · decide
    · rfl
    · rfl
    · decide
    · rfl
    · exact fun u hu => ⟨zMp_err (by decide), rfl, rfl⟩
    · rfl
    · rfl
    · exact fun u => rfl
  by_cases h9 : 65 < xl a + xl b
  · have ek : kFilter (zGm xe xl) xl a b t bl = 3 := by unfold kFilter; rw [if_neg (not_not_intro h1), if_neg (not_not_intro h2), if_neg (not_not_intro h3), if_neg (not_not_intro h4), if_neg (not_not_intro h5), if_neg (not_not_intro h6), if_neg h7, if_neg h8, if_pos h9]
    rw [ek]
    have hc := c_X6_filter_3c l D cI (md 0) (md 1) (md 2) (md 3) (md 4) (md 5) (md 6) np th xe xl a b t bl sv (by first | omega | assumption) (by first | omega | assumption) (by first | omega | assumption) (by first | omega | assumption) (by first | omega | assumption) (by first | omega | assumption) (by first | omega | assumption) (by first | omega | assumption) (by first | omega | assumption) (by first | omega | assumption) (by first | omega | assumption) hxe (by first | omega | assumption) ((zWb_gm (by have := hxl a (by omega); omega)).mp h5) ((zWb_gm (by have := hxl b (by omega); omega)).mp h6) (by first | omega | assumption) (by first | omega | assumption) (by first | omega | assumption)
    refine z_liftL (wr := [(md 1, .inl (cI, 256, .inl (zA xe))), (md 2, .inl (cI, 4, .inl (zA xl))), (md 3, .inl (cI, 8, .inl (zA xp))), (md 4, .inl (cI, 8, .inl (zA xz))), (md 5, .inl (cI, 8, .inl (zA xr))), (md 6, .inl (cI, 64, .inl (zA xm)))]) hc ?_ ?_ ?_ ?_ (zM cI md xe xl xp xz xr xm np th) [0] [1, 2] [1, 2, 3, 4, 5, 6] [6, 0, 1, 2, 3, 4, 5] ?_ ?_ ?_ ?_ ?_ ?_ ?_ _ _ _ (fun _ => (0, xe, xl, xm)) ?_ ?_ ?_ ?_
    · exact Nat.le_of_ble_eq_true rfl
    · exact Nat.le_of_ble_eq_true rfl
    · rfl
    · rfl
    · rfl
    · rfl
    · decide
    · rfl
    · rfl
    · decide
    · rfl
    · exact fun u hu => ⟨zMp_err (by decide), rfl, rfl⟩
    · rfl
    · rfl
    · exact fun u => rfl
  have ek : kFilter (zGm xe xl) xl a b t bl = 0 := by unfold kFilter; rw [if_neg (not_not_intro h1), if_neg (not_not_intro h2), if_neg (not_not_intro h3), if_neg (not_not_intro h4), if_neg (not_not_intro h5), if_neg (not_not_intro h6), if_neg h7, if_neg h8, if_neg h9]
  rw [ek]
  have hc := c_X6_filter_ok l D cI (md 0) (md 1) (md 2) (md 3) (md 4) (md 5) (md 6) np th xe xl xm a b t bl sv (by first | omega | assumption) (by first | omega | assumption) (by first | omega | assumption) (by first | omega | assumption) (by first | omega | assumption) (by first | omega | assumption) (by first | omega | assumption) (by first | omega | assumption) (by first | omega | assumption) (by first | omega | assumption) (by first | omega | assumption) hxe (by first | omega | assumption) ((zWb_gm (by have := hxl a (by omega); omega)).mp h5) ((zWb_gm (by have := hxl b (by omega); omega)).mp h6) (by first | omega | assumption) (by first | omega | assumption) (by first | omega | assumption)
  refine z_liftL (wr := [(md 3, .inl (cI, 8, .inl (zA xp))), (md 4, .inl (cI, 8, .inl (zA xz))), (md 5, .inl (cI, 8, .inl (zA xr)))]) hc ?_ ?_ ?_ ?_ (zM cI md xe xl xp xz xr xm np th) [0, 1, 2, 6] [] [3, 4, 5] [3, 4, 5, 0, 1, 2, 6] ?_ ?_ ?_ ?_ ?_ ?_ ?_ _ _ _ (fun (xe2, xm2) => (xl a + xl b - 1, xe2, zU xl t (xl a + xl b - 1), xm2)) ?_ ?_ ?_ ?_
  · exact Nat.le_of_ble_eq_true rfl
  · exact Nat.le_of_ble_eq_true rfl
  · rfl
  · rfl
  · rfl
  · rfl
  · decide
  · rfl
  · rfl
  · decide
  · rfl
  · exact fun u hu => by
      obtain ⟨xe2, xm2⟩ := u
      exact ⟨zMp_mu rfl rfl hu.1 hu.2, rfl, rfl⟩
  · rfl
  · rfl
  · exact fun u => rfl

set_option maxHeartbeats 1000000 in
set_option maxRecDepth 4000 in
theorem M_multiply (l : Launch) (D : va_G) (cI : ClassId) (md : Nat → Nat) (xe xl xp xz xr xm : Int → Int) (np th : Int) (a : Int) (b : Int) (t : Int) (hMI : zMI xe xl xp xz xr np) (ha_a : -2147483648 ≤ a ∧ a ≤ 2147483647) (ha_b : -2147483648 ≤ b ∧ b ≤ 2147483647) (ha_t : -2147483648 ≤ t ∧ t ≤ 2147483647) : zC l yX6_multiply wsX6_multiply zRM D [(cI, .int)] (zM cI md xe xl xp xz xr xm np th) [] [.ref (md 0), .int (zI a), .int (zI b), .int (zI t)] (S := Int × (Int → Int) × (Int → Int) × (Int → Int)) (zMp (kMult (zGm xe xl) xl a b t) (ndI (zLn (zGm xe xl) xl a b) (xl a + xl b)) True xe xl t (ndI (zLn (zGm xe xl) xl a b) (xl a + xl b)) (dgI (zLn (zGm xe xl) xl a b))) (fun u => some (.int (zI u.1))) (fun u => zM cI md u.2.1 u.2.2.1 xp xz xr u.2.2.2 np (kMult (zGm xe xl) xl a b t)) := by
  obtain ⟨hnp, hxl, hxe, hpl⟩ := hMI
  by_cases h1 : 0 ≤ a ∧ a < 4
  rotate_left
  · have ek : kMult (zGm xe xl) xl a b t = 1 := by unfold kMult; rw [if_pos h1]
    rw [ek]
    have hc := c_X6_multiply_1a l D cI (md 0) (md 1) (md 2) (md 3) (md 4) (md 5) (md 6) np th a b t (by first | omega | assumption) (by first | omega | assumption) (by first | omega | assumption) (by first | omega | assumption) (by first | omega | assumption)
    refine z_liftL (wr := [(md 1, .inl (cI, 256, .inl (zA xe))), (md 2, .inl (cI, 4, .inl (zA xl))), (md 3, .inl (cI, 8, .inl (zA xp))), (md 4, .inl (cI, 8, .inl (zA xz))), (md 5, .inl (cI, 8, .inl (zA xr))), (md 6, .inl (cI, 64, .inl (zA xm)))]) hc ?_ ?_ ?_ ?_ (zM cI md xe xl xp xz xr xm np th) [0] [] [1, 2, 3, 4, 5, 6] [6, 0, 1, 2, 3, 4, 5] ?_ ?_ ?_ ?_ ?_ ?_ ?_ _ _ _ (fun _ => (0, xe, xl, xm)) ?_ ?_ ?_ ?_
    · exact Nat.le_of_ble_eq_true rfl
    · exact Nat.le_of_ble_eq_true rfl
    · rfl
    · rfl
    · rfl
    · rfl
    · decide
    · rfl
    · rfl
    · decide
    · rfl
    · exact fun u hu => ⟨zMp_err (by decide), rfl, rfl⟩
    · rfl
    · rfl
    · exact fun u => rfl
  have hla := hxl a h1
  by_cases h2 : 0 ≤ b ∧ b < 4
  rotate_left
  · have ek : kMult (zGm xe xl) xl a b t = 1 := by unfold kMult; rw [if_neg (not_not_intro h1), if_pos h2]
    rw [ek]
    have hc := c_X6_multiply_1b l D cI (md 0) (md 1) (md 2) (md 3) (md 4) (md 5) (md 6) np th a b t (by first | omega | assumption) (by first | omega | assumption) (by first | omega | assumption) (by first | omega | assumption) (by first | omega | assumption) (by first | omega | assumption)
    refine z_liftL (wr := [(md 1, .inl (cI, 256, .inl (zA xe))), (md 2, .inl (cI, 4, .inl (zA xl))), (md 3, .inl (cI, 8, .inl (zA xp))), (md 4, .inl (cI, 8, .inl (zA xz))), (md 5, .inl (cI, 8, .inl (zA xr))), (md 6, .inl (cI, 64, .inl (zA xm)))]) hc ?_ ?_ ?_ ?_ (zM cI md xe xl xp xz xr xm np th) [0] [] [1, 2, 3, 4, 5, 6] [6, 0, 1, 2, 3, 4, 5] ?_ ?_ ?_ ?_ ?_ ?_ ?_ _ _ _ (fun _ => (0, xe, xl, xm)) ?_ ?_ ?_ ?_
    · exact Nat.le_of_ble_eq_true rfl
    · exact Nat.le_of_ble_eq_true rfl
    · rfl
    · rfl
    · rfl
    · rfl
    · decide
    · rfl
    · rfl
    · decide
    · rfl
    · exact fun u hu => ⟨zMp_err (by decide), rfl, rfl⟩
    · rfl
    · rfl
    · exact fun u => rfl
  have hlb := hxl b h2
  by_cases h3 : 0 ≤ t ∧ t < 4
  rotate_left
  · have ek : kMult (zGm xe xl) xl a b t = 1 := by unfold kMult; rw [if_neg (not_not_intro h1), if_neg (not_not_intro h2), if_pos h3]
    rw [ek]
    have hc := c_X6_multiply_1c l D cI (md 0) (md 1) (md 2) (md 3) (md 4) (md 5) (md 6) np th a b t (by first | omega | assumption) (by first | omega | assumption) (by first | omega | assumption) (by first | omega | assumption) (by first | omega | assumption) (by first | omega | assumption) (by first | omega | assumption)
    refine z_liftL (wr := [(md 1, .inl (cI, 256, .inl (zA xe))), (md 2, .inl (cI, 4, .inl (zA xl))), (md 3, .inl (cI, 8, .inl (zA xp))), (md 4, .inl (cI, 8, .inl (zA xz))), (md 5, .inl (cI, 8, .inl (zA xr))), (md 6, .inl (cI, 64, .inl (zA xm)))]) hc ?_ ?_ ?_ ?_ (zM cI md xe xl xp xz xr xm np th) [0] [] [1, 2, 3, 4, 5, 6] [6, 0, 1, 2, 3, 4, 5] ?_ ?_ ?_ ?_ ?_ ?_ ?_ _ _ _ (fun _ => (0, xe, xl, xm)) ?_ ?_ ?_ ?_
    · exact Nat.le_of_ble_eq_true rfl
    · exact Nat.le_of_ble_eq_true rfl
    · rfl
    · rfl
    · rfl
    · rfl
    · decide
    · rfl
    · rfl
    · decide
    · rfl
    · exact fun u hu => ⟨zMp_err (by decide), rfl, rfl⟩
    · rfl
    · rfl
    · exact fun u => rfl
  have hlt := hxl t h3
  by_cases h4 : zWb (zGm xe xl) xl 0 9 a = true
  rotate_left
  · have ek : kMult (zGm xe xl) xl a b t = 2 := by unfold kMult; rw [if_neg (not_not_intro h1), if_neg (not_not_intro h2), if_neg (not_not_intro h3), if_pos h4]
    rw [ek]
    have hc := c_X6_multiply_2a l D cI (md 0) (md 1) (md 2) (md 3) (md 4) (md 5) (md 6) np th xe xl a b t (by first | omega | assumption) (by first | omega | assumption) (by first | omega | assumption) (by first | omega | assumption) (by first | omega | assumption) (by first | omega | assumption) (by first | omega | assumption) (by first | omega | assumption) (by first | omega | assumption) hxe (fun q => h4 ((zWb_gm (by have := hxl a (by omega); omega)).mpr q))
    refine z_liftL (wr := [(md 1, .inl (cI, 256, .inl (zA xe))), (md 2, .inl (cI, 4, .inl (zA xl))), (md 3, .inl (cI, 8, .inl (zA xp))), (md 4, .inl (cI, 8, .inl (zA xz))), (md 5, .inl (cI, 8, .inl (zA xr))), (md 6, .inl (cI, 64, .inl (zA xm)))]) hc ?_ ?_ ?_ ?_ (zM cI md xe xl xp xz xr xm np th) [0] [1, 2] [1, 2, 3, 4, 5, 6] [6, 0, 1, 2, 3, 4, 5] ?_ ?_ ?_ ?_ ?_ ?_ ?_ _ _ _ (fun _ => (0, xe, xl, xm)) ?_ ?_ ?_ ?_
    · exact Nat.le_of_ble_eq_true rfl
    · exact Nat.le_of_ble_eq_true rfl
    · rfl
    · rfl
    · rfl
    · rfl
    · decide
    · rfl
    · rfl
    · decide
    · rfl
    · exact fun u hu => ⟨zMp_err (by decide), rfl, rfl⟩
    · rfl
    · rfl
    · exact fun u => rfl
  by_cases h5 : zWb (zGm xe xl) xl 0 9 b = true
  rotate_left
  · have ek : kMult (zGm xe xl) xl a b t = 2 := by unfold kMult; rw [if_neg (not_not_intro h1), if_neg (not_not_intro h2), if_neg (not_not_intro h3), if_neg (not_not_intro h4), if_pos h5]
    rw [ek]
    have hc := c_X6_multiply_2b l D cI (md 0) (md 1) (md 2) (md 3) (md 4) (md 5) (md 6) np th xe xl a b t (by first | omega | assumption) (by first | omega | assumption) (by first | omega | assumption) (by first | omega | assumption) (by first | omega | assumption) (by first | omega | assumption) (by first | omega | assumption) (by first | omega | assumption) (by first | omega | assumption) hxe ((zWb_gm (by have := hxl a (by omega); omega)).mp h4) (fun q => h5 ((zWb_gm (by have := hxl b (by omega); omega)).mpr q))
    refine z_liftL (wr := [(md 1, .inl (cI, 256, .inl (zA xe))), (md 2, .inl (cI, 4, .inl (zA xl))), (md 3, .inl (cI, 8, .inl (zA xp))), (md 4, .inl (cI, 8, .inl (zA xz))), (md 5, .inl (cI, 8, .inl (zA xr))), (md 6, .inl (cI, 64, .inl (zA xm)))]) hc ?_ ?_ ?_ ?_ (zM cI md xe xl xp xz xr xm np th) [0] [1, 2] [1, 2, 3, 4, 5, 6] [6, 0, 1, 2, 3, 4, 5] ?_ ?_ ?_ ?_ ?_ ?_ ?_ _ _ _ (fun _ => (0, xe, xl, xm)) ?_ ?_ ?_ ?_
    · exact Nat.le_of_ble_eq_true rfl
    · exact Nat.le_of_ble_eq_true rfl
    · rfl
    · rfl
    · rfl
    · rfl
    · decide
    · rfl
    · rfl
    · decide
    · rfl
    · exact fun u hu => ⟨zMp_err (by decide), rfl, rfl⟩
    · rfl
    · rfl
    · exact fun u => rfl
  by_cases h6 : xl a = 0
  · have ek : kMult (zGm xe xl) xl a b t = 3 := by unfold kMult; rw [if_neg (not_not_intro h1), if_neg (not_not_intro h2), if_neg (not_not_intro h3), if_neg (not_not_intro h4), if_neg (not_not_intro h5), if_pos h6]
    rw [ek]
    have hc := c_X6_multiply_3a l D cI (md 0) (md 1) (md 2) (md 3) (md 4) (md 5) (md 6) np th xe xl a b t (by first | omega | assumption) (by first | omega | assumption) (by first | omega | assumption) (by first | omega | assumption) (by first | omega | assumption) (by first | omega | assumption) (by first | omega | assumption) (by first | omega | assumption) (by first | omega | assumption) hxe ((zWb_gm (by have := hxl a (by omega); omega)).mp h4) ((zWb_gm (by have := hxl b (by omega); omega)).mp h5) (by first | omega | assumption)
    refine z_liftL (wr := [(md 1, .inl (cI, 256, .inl (zA xe))), (md 2, .inl (cI, 4, .inl (zA xl))), (md 3, .inl (cI, 8, .inl (zA xp))), (md 4, .inl (cI, 8, .inl (zA xz))), (md 5, .inl (cI, 8, .inl (zA xr))), (md 6, .inl (cI, 64, .inl (zA xm)))]) hc ?_ ?_ ?_ ?_ (zM cI md xe xl xp xz xr xm np th) [0] [1, 2] [1, 2, 3, 4, 5, 6] [6, 0, 1, 2, 3, 4, 5] ?_ ?_ ?_ ?_ ?_ ?_ ?_ _ _ _ (fun _ => (0, xe, xl, xm)) ?_ ?_ ?_ ?_
    · exact Nat.le_of_ble_eq_true rfl
    · exact Nat.le_of_ble_eq_true rfl
    · rfl
    · rfl
    · rfl
    · rfl
    · decide
    · rfl
    · rfl
    · decide
    · rfl
    · exact fun u hu => ⟨zMp_err (by decide), rfl, rfl⟩
    · rfl
    · rfl
    · exact fun u => rfl
  by_cases h7 : xl b = 0
  · have ek : kMult (zGm xe xl) xl a b t = 3 := by unfold kMult; rw [if_neg (not_not_intro h1), if_neg (not_not_intro h2), if_neg (not_not_intro h3), if_neg (not_not_intro h4), if_neg (not_not_intro h5), if_neg h6, if_pos h7]
    rw [ek]
    have hc := c_X6_multiply_3b l D cI (md 0) (md 1) (md 2) (md 3) (md 4) (md 5) (md 6) np th xe xl a b t (by first | omega | assumption) (by first | omega | assumption) (by first | omega | assumption) (by first | omega | assumption) (by first | omega | assumption) (by first | omega | assumption) (by first | omega | assumption) (by first | omega | assumption) (by first | omega | assumption) hxe ((zWb_gm (by have := hxl a (by omega); omega)).mp h4) ((zWb_gm (by have := hxl b (by omega); omega)).mp h5) (by first | omega | assumption) (by first | omega | assumption)
    refine z_liftL (wr := [(md 1, .inl (cI, 256, .inl (zA xe))), (md 2, .inl (cI, 4, .inl (zA xl))), (md 3, .inl (cI, 8, .inl (zA xp))), (md 4, .inl (cI, 8, .inl (zA xz))), (md 5, .inl (cI, 8, .inl (zA xr))), (md 6, .inl (cI, 64, .inl (zA xm)))]) hc ?_ ?_ ?_ ?_ (zM cI md xe xl xp xz xr xm np th) [0] [1, 2] [1, 2, 3, 4, 5, 6] [6, 0, 1, 2, 3, 4, 5] ?_ ?_ ?_ ?_ ?_ ?_ ?_ _ _ _ (fun _ => (0, xe, xl, xm)) ?_ ?_ ?_ ?_
    · exact Nat.le_of_ble_eq_true rfl
    · exact Nat.le_of_ble_eq_true rfl
    · rfl
    · rfl
    · rfl
    · rfl
    · decide
    · rfl
    · rfl
    · decide
    · rfl
    · exact fun u hu => ⟨zMp_err (by decide), rfl, rfl⟩
    · rfl
    · rfl
    · exact fun u => rfl
  by_cases h8 : 64 < xl a + xl b
  · have ek : kMult (zGm xe xl) xl a b t = 3 := by unfold kMult; rw [if_neg (not_not_intro h1), if_neg (not_not_intro h2), if_neg (not_not_intro h3), if_neg (not_not_intro h4), if_neg (not_not_intro h5), if_neg h6, if_neg h7, if_pos h8]
    rw [ek]
    have hc := c_X6_multiply_3c l D cI (md 0) (md 1) (md 2) (md 3) (md 4) (md 5) (md 6) np th xe xl a b t (by first | omega | assumption) (by first | omega | assumption) (by first | omega | assumption) (by first | omega | assumption) (by first | omega | assumption) (by first | omega | assumption) (by first | omega | assumption) (by first | omega | assumption) (by first | omega | assumption) hxe ((zWb_gm (by have := hxl a (by omega); omega)).mp h4) ((zWb_gm (by have := hxl b (by omega); omega)).mp h5) (by first | omega | assumption) (by first | omega | assumption) (by first | omega | assumption)
    refine z_liftL (wr := [(md 1, .inl (cI, 256, .inl (zA xe))), (md 2, .inl (cI, 4, .inl (zA xl))), (md 3, .inl (cI, 8, .inl (zA xp))), (md 4, .inl (cI, 8, .inl (zA xz))), (md 5, .inl (cI, 8, .inl (zA xr))), (md 6, .inl (cI, 64, .inl (zA xm)))]) hc ?_ ?_ ?_ ?_ (zM cI md xe xl xp xz xr xm np th) [0] [1, 2] [1, 2, 3, 4, 5, 6] [6, 0, 1, 2, 3, 4, 5] ?_ ?_ ?_ ?_ ?_ ?_ ?_ _ _ _ (fun _ => (0, xe, xl, xm)) ?_ ?_ ?_ ?_
    · exact Nat.le_of_ble_eq_true rfl
    · exact Nat.le_of_ble_eq_true rfl
    · rfl
    · rfl
    · rfl
    · rfl
    · decide
    · rfl
    · rfl
    · decide
    · rfl
    · exact fun u hu => ⟨zMp_err (by decide), rfl, rfl⟩
    · rfl
    · rfl
    · exact fun u => rfl
  have ek : kMult (zGm xe xl) xl a b t = 0 := by unfold kMult; rw [if_neg (not_not_intro h1), if_neg (not_not_intro h2), if_neg (not_not_intro h3), if_neg (not_not_intro h4), if_neg (not_not_intro h5), if_neg h6, if_neg h7, if_neg h8]
  rw [ek]
  have hc := c_X6_multiply_ok l D cI (md 0) (md 1) (md 2) (md 3) (md 4) (md 5) (md 6) np th xe xl xm a b t (by first | omega | assumption) (by first | omega | assumption) (by first | omega | assumption) (by first | omega | assumption) (by first | omega | assumption) (by first | omega | assumption) (by first | omega | assumption) (by first | omega | assumption) (by first | omega | assumption) hxe ((zWb_gm (by have := hxl a (by omega); omega)).mp h4) ((zWb_gm (by have := hxl b (by omega); omega)).mp h5) (by first | omega | assumption) (by first | omega | assumption) (by first | omega | assumption)
  refine z_liftL (wr := [(md 3, .inl (cI, 8, .inl (zA xp))), (md 4, .inl (cI, 8, .inl (zA xz))), (md 5, .inl (cI, 8, .inl (zA xr)))]) hc ?_ ?_ ?_ ?_ (zM cI md xe xl xp xz xr xm np th) [0, 1, 2, 6] [] [3, 4, 5] [3, 4, 5, 0, 1, 2, 6] ?_ ?_ ?_ ?_ ?_ ?_ ?_ _ _ _ (fun (xe2, xm2) => (ndI (zLn (zGm xe xl) xl a b) (xl a + xl b), xe2, zU xl t (ndI (zLn (zGm xe xl) xl a b) (xl a + xl b)), xm2)) ?_ ?_ ?_ ?_
  · exact Nat.le_of_ble_eq_true rfl
  · exact Nat.le_of_ble_eq_true rfl
  · rfl
  · rfl
  · rfl
  · rfl
  · decide
  · rfl
  · rfl
  · decide
  · rfl
  · exact fun u hu => by
      obtain ⟨xe2, xm2⟩ := u
      exact ⟨zMp_mu rfl rfl hu.1 hu.2, rfl, rfl⟩
  · rfl
  · rfl
  · exact fun u => rfl

set_option maxHeartbeats 1000000 in
set_option maxRecDepth 4000 in
theorem M_plan (l : Launch) (D : va_G) (cI : ClassId) (md : Nat → Nat) (xe xl xp xz xr xm : Int → Int) (np th : Int) (p n : Int) (hMI : zMI xe xl xp xz xr np) (ha_p : -2147483648 ≤ p ∧ p ≤ 2147483647) (ha_n : -2147483648 ≤ n ∧ n ≤ 2147483647) : zC l yX6_plan wsX6_plan zRM D [(cI, .int)] (zM cI md xe xl xp xz xr xm np th) [] [.ref (md 0), .int (zI p), .int (zI n)] (S := Int × (Int → Int) × (Int → Int) × (Int → Int) × Int) (zMpp (kPlan np p n) np p n xp xz xr) (fun u => some (.int (zI u.1))) (fun u => zM cI md xe xl u.2.1 u.2.2.1 u.2.2.2.1 xm u.2.2.2.2 (kPlan np p n)) := by
  obtain ⟨hnp, hxl, hxe, hpl⟩ := hMI
  by_cases h1 : p < 3
  · have ek : kPlan np p n = 1 := by unfold kPlan; rw [if_pos h1]
    rw [ek]
    have hc := c_X6_plan_1a l D cI (md 0) (md 1) (md 2) (md 3) (md 4) (md 5) (md 6) np th p n (by first | omega | assumption) (by first | omega | assumption) (by first | omega | assumption) (by first | omega | assumption)
    refine z_liftL (wr := [(md 1, .inl (cI, 256, .inl (zA xe))), (md 2, .inl (cI, 4, .inl (zA xl))), (md 3, .inl (cI, 8, .inl (zA xp))), (md 4, .inl (cI, 8, .inl (zA xz))), (md 5, .inl (cI, 8, .inl (zA xr))), (md 6, .inl (cI, 64, .inl (zA xm)))]) hc ?_ ?_ ?_ ?_ (zM cI md xe xl xp xz xr xm np th) [0] [] [1, 2, 3, 4, 5, 6] [6, 0, 1, 2, 3, 4, 5] ?_ ?_ ?_ ?_ ?_ ?_ ?_ _ _ _ (fun _ => (0, xp, xz, xr, np)) ?_ ?_ ?_ ?_
    · exact Nat.le_of_ble_eq_true rfl
    · exact Nat.le_of_ble_eq_true rfl
    · rfl
    · rfl
    · rfl
    · rfl
    · decide
    · rfl
    · rfl
    · decide
    · rfl
    · exact fun u hu => ⟨⟨fun _ => rfl, fun q => absurd q (by decide)⟩, rfl, rfl⟩
    · rfl
    · rfl
    · exact fun u => rfl
  by_cases h2 : 9973 < p
  · have ek : kPlan np p n = 1 := by unfold kPlan; rw [if_neg h1, if_pos h2]
    rw [ek]
    have hc := c_X6_plan_1b l D cI (md 0) (md 1) (md 2) (md 3) (md 4) (md 5) (md 6) np th p n (by first | omega | assumption) (by first | omega | assumption) (by first | omega | assumption) (by first | omega | assumption)
    refine z_liftL (wr := [(md 1, .inl (cI, 256, .inl (zA xe))), (md 2, .inl (cI, 4, .inl (zA xl))), (md 3, .inl (cI, 8, .inl (zA xp))), (md 4, .inl (cI, 8, .inl (zA xz))), (md 5, .inl (cI, 8, .inl (zA xr))), (md 6, .inl (cI, 64, .inl (zA xm)))]) hc ?_ ?_ ?_ ?_ (zM cI md xe xl xp xz xr xm np th) [0] [] [1, 2, 3, 4, 5, 6] [6, 0, 1, 2, 3, 4, 5] ?_ ?_ ?_ ?_ ?_ ?_ ?_ _ _ _ (fun _ => (0, xp, xz, xr, np)) ?_ ?_ ?_ ?_
    · exact Nat.le_of_ble_eq_true rfl
    · exact Nat.le_of_ble_eq_true rfl
    · rfl
    · rfl
    · rfl
    · rfl
    · decide
    · rfl
    · rfl
    · decide
    · rfl
    · exact fun u hu => ⟨⟨fun _ => rfl, fun q => absurd q (by decide)⟩, rfl, rfl⟩
    · rfl
    · rfl
    · exact fun u => rfl
  by_cases h3 : 1 < p ∧ lfac p = p
  rotate_left
  · have ek : kPlan np p n = 1 := by unfold kPlan; rw [if_neg h1, if_neg h2, if_pos h3]
    rw [ek]
    have hc := c_X6_plan_1c l D cI (md 0) (md 1) (md 2) (md 3) (md 4) (md 5) (md 6) np th p n (by first | omega | assumption) (by first | omega | assumption) (by first | omega | assumption) (by first | omega | assumption) (by first | omega | assumption)
    refine z_liftL (wr := [(md 1, .inl (cI, 256, .inl (zA xe))), (md 2, .inl (cI, 4, .inl (zA xl))), (md 3, .inl (cI, 8, .inl (zA xp))), (md 4, .inl (cI, 8, .inl (zA xz))), (md 5, .inl (cI, 8, .inl (zA xr))), (md 6, .inl (cI, 64, .inl (zA xm)))]) hc ?_ ?_ ?_ ?_ (zM cI md xe xl xp xz xr xm np th) [0] [] [1, 2, 3, 4, 5, 6] [6, 0, 1, 2, 3, 4, 5] ?_ ?_ ?_ ?_ ?_ ?_ ?_ _ _ _ (fun _ => (0, xp, xz, xr, np)) ?_ ?_ ?_ ?_
    · exact Nat.le_of_ble_eq_true rfl
    · exact Nat.le_of_ble_eq_true rfl
    · rfl
    · rfl
    · rfl
    · rfl
    · decide
    · rfl
    · rfl
    · decide
    · rfl
    · exact fun u hu => ⟨⟨fun _ => rfl, fun q => absurd q (by decide)⟩, rfl, rfl⟩
    · rfl
    · rfl
    · exact fun u => rfl
  by_cases h4 : n < 1
  · have ek : kPlan np p n = 1 := by unfold kPlan; rw [if_neg h1, if_neg h2, if_neg (not_not_intro h3), if_pos h4]
    rw [ek]
    have hc := c_X6_plan_1d l D cI (md 0) (md 1) (md 2) (md 3) (md 4) (md 5) (md 6) np th p n (by first | omega | assumption) (by first | omega | assumption) (by first | omega | assumption) (by first | omega | assumption) (by first | omega | assumption) (by first | omega | assumption)
    refine z_liftL (wr := [(md 1, .inl (cI, 256, .inl (zA xe))), (md 2, .inl (cI, 4, .inl (zA xl))), (md 3, .inl (cI, 8, .inl (zA xp))), (md 4, .inl (cI, 8, .inl (zA xz))), (md 5, .inl (cI, 8, .inl (zA xr))), (md 6, .inl (cI, 64, .inl (zA xm)))]) hc ?_ ?_ ?_ ?_ (zM cI md xe xl xp xz xr xm np th) [0] [] [1, 2, 3, 4, 5, 6] [6, 0, 1, 2, 3, 4, 5] ?_ ?_ ?_ ?_ ?_ ?_ ?_ _ _ _ (fun _ => (0, xp, xz, xr, np)) ?_ ?_ ?_ ?_
    · exact Nat.le_of_ble_eq_true rfl
    · exact Nat.le_of_ble_eq_true rfl
    · rfl
    · rfl
    · rfl
    · rfl
    · decide
    · rfl
    · rfl
    · decide
    · rfl
    · exact fun u hu => ⟨⟨fun _ => rfl, fun q => absurd q (by decide)⟩, rfl, rfl⟩
    · rfl
    · rfl
    · exact fun u => rfl
  by_cases h5 : 64 < n
  · have ek : kPlan np p n = 1 := by unfold kPlan; rw [if_neg h1, if_neg h2, if_neg (not_not_intro h3), if_neg h4, if_pos h5]
    rw [ek]
    have hc := c_X6_plan_1e l D cI (md 0) (md 1) (md 2) (md 3) (md 4) (md 5) (md 6) np th p n (by first | omega | assumption) (by first | omega | assumption) (by first | omega | assumption) (by first | omega | assumption) (by first | omega | assumption) (by first | omega | assumption)
    refine z_liftL (wr := [(md 1, .inl (cI, 256, .inl (zA xe))), (md 2, .inl (cI, 4, .inl (zA xl))), (md 3, .inl (cI, 8, .inl (zA xp))), (md 4, .inl (cI, 8, .inl (zA xz))), (md 5, .inl (cI, 8, .inl (zA xr))), (md 6, .inl (cI, 64, .inl (zA xm)))]) hc ?_ ?_ ?_ ?_ (zM cI md xe xl xp xz xr xm np th) [0] [] [1, 2, 3, 4, 5, 6] [6, 0, 1, 2, 3, 4, 5] ?_ ?_ ?_ ?_ ?_ ?_ ?_ _ _ _ (fun _ => (0, xp, xz, xr, np)) ?_ ?_ ?_ ?_
    · exact Nat.le_of_ble_eq_true rfl
    · exact Nat.le_of_ble_eq_true rfl
    · rfl
    · rfl
    · rfl
    · rfl
    · decide
    · rfl
    · rfl
    · decide
    · rfl
    · exact fun u hu => ⟨⟨fun _ => rfl, fun q => absurd q (by decide)⟩, rfl, rfl⟩
    · rfl
    · rfl
    · exact fun u => rfl
  by_cases h6 : (p - 1) % n ≠ 0
  · have ek : kPlan np p n = 1 := by unfold kPlan; rw [if_neg h1, if_neg h2, if_neg (not_not_intro h3), if_neg h4, if_neg h5, if_pos h6]
    rw [ek]
    have hc := c_X6_plan_1f l D cI (md 0) (md 1) (md 2) (md 3) (md 4) (md 5) (md 6) np th p n (by first | omega | assumption) (by first | omega | assumption) (by first | omega | assumption) (by first | omega | assumption) (by first | omega | assumption) (by first | omega | assumption) (by first | omega | assumption)
    refine z_liftL (wr := [(md 1, .inl (cI, 256, .inl (zA xe))), (md 2, .inl (cI, 4, .inl (zA xl))), (md 3, .inl (cI, 8, .inl (zA xp))), (md 4, .inl (cI, 8, .inl (zA xz))), (md 5, .inl (cI, 8, .inl (zA xr))), (md 6, .inl (cI, 64, .inl (zA xm)))]) hc ?_ ?_ ?_ ?_ (zM cI md xe xl xp xz xr xm np th) [0] [] [1, 2, 3, 4, 5, 6] [6, 0, 1, 2, 3, 4, 5] ?_ ?_ ?_ ?_ ?_ ?_ ?_ _ _ _ (fun _ => (0, xp, xz, xr, np)) ?_ ?_ ?_ ?_
    · exact Nat.le_of_ble_eq_true rfl
    · exact Nat.le_of_ble_eq_true rfl
    · rfl
    · rfl
    · rfl
    · rfl
    · decide
    · rfl
    · rfl
    · decide
    · rfl
    · exact fun u hu => ⟨⟨fun _ => rfl, fun q => absurd q (by decide)⟩, rfl, rfl⟩
    · rfl
    · rfl
    · exact fun u => rfl
  by_cases h7 : np = 8
  · have ek : kPlan np p n = 2 := by unfold kPlan; rw [if_neg h1, if_neg h2, if_neg (not_not_intro h3), if_neg h4, if_neg h5, if_neg h6, if_pos h7]
    rw [ek]
    have hc := c_X6_plan_2 l D cI (md 0) (md 1) (md 2) (md 3) (md 4) (md 5) (md 6) np th p n (by first | omega | assumption) (by first | omega | assumption) (by first | omega | assumption) (by first | omega | assumption) (by first | omega | assumption) (by first | omega | assumption) (Decidable.byContradiction h6) (by first | omega | assumption)
    refine z_liftL (wr := [(md 1, .inl (cI, 256, .inl (zA xe))), (md 2, .inl (cI, 4, .inl (zA xl))), (md 3, .inl (cI, 8, .inl (zA xp))), (md 4, .inl (cI, 8, .inl (zA xz))), (md 5, .inl (cI, 8, .inl (zA xr))), (md 6, .inl (cI, 64, .inl (zA xm)))]) hc ?_ ?_ ?_ ?_ (zM cI md xe xl xp xz xr xm np th) [0] [] [1, 2, 3, 4, 5, 6] [6, 0, 1, 2, 3, 4, 5] ?_ ?_ ?_ ?_ ?_ ?_ ?_ _ _ _ (fun _ => (0, xp, xz, xr, np)) ?_ ?_ ?_ ?_
    · exact Nat.le_of_ble_eq_true rfl
    · exact Nat.le_of_ble_eq_true rfl
    · rfl
    · rfl
    · rfl
    · rfl
    · decide
    · rfl
    · rfl
    · decide
    · rfl
    · exact fun u hu => ⟨⟨fun _ => rfl, fun q => absurd q (by decide)⟩, rfl, rfl⟩
    · rfl
    · rfl
    · exact fun u => rfl
  have ek : kPlan np p n = 0 := by unfold kPlan; rw [if_neg h1, if_neg h2, if_neg (not_not_intro h3), if_neg h4, if_neg h5, if_neg h6, if_neg h7]
  rw [ek]
  have hc := c_X6_plan_ok l D cI (md 0) (md 1) (md 2) (md 3) (md 4) (md 5) (md 6) np th xp xz xr p n (by first | omega | assumption) (by first | omega | assumption) (by first | omega | assumption) (by first | omega | assumption) (by first | omega | assumption) (by first | omega | assumption) (Decidable.byContradiction h6) (by first | omega | assumption)
  refine z_liftL (wr := [(md 1, .inl (cI, 256, .inl (zA xe))), (md 2, .inl (cI, 4, .inl (zA xl))), (md 6, .inl (cI, 64, .inl (zA xm)))]) hc ?_ ?_ ?_ ?_ (zM cI md xe xl xp xz xr xm np th) [0, 3, 4, 5] [] [1, 2, 6] [3, 0, 1, 4, 5, 6, 2] ?_ ?_ ?_ ?_ ?_ ?_ ?_ _ _ _ (fun _ => (np, zU xp np p, zU xz np n, zU xr np (zRoot p n), np + 1)) ?_ ?_ ?_ ?_
  · exact Nat.le_of_ble_eq_true rfl
  · exact Nat.le_of_ble_eq_true rfl
  · rfl
  · rfl
  · rfl
  · rfl
  · decide
  · rfl
  · rfl
  · decide
  · rfl
  · exact fun u hu => ⟨⟨fun q => absurd rfl q, fun _ => ⟨rfl, rfl⟩⟩, rfl, rfl⟩
  · rfl
  · rfl
  · exact fun u => rfl

end MC
