section WC
def zAD (ad : zk → Nat) (np : Int) (h w : Nat) : zk → Nat := fun k => if k = (2, np) then h else if k = (3, np) then w else ad k
def zPp (cl np p n : Int) (ad : zk → Nat) (ar : zk → Int → Int) (pp pn : Int → Int) (pg : Int → Option Nat) : Int × (Nat → Int64) × (zk → Nat) × (zk → Int → Int) × Int × (Int → Int) × (Int → Int) × (Int → Option Nat) → Prop := fun u =>
  u.1 = cl ∧ (cl ≠ 0 → u.2.2 = (ad, ar, np, pp, pn, pg)) ∧ (cl = 0 → u.2.1 0 = zL np ∧ ∃ (h w : Nat) (pw : Int → Int), zPW p n pw ∧ u.2.2 = (zAD ad np h w, zUA ar (3, np) pw, np + 1, zU pp np p, zU pn np n, zV pg np (some h)))
theorem zPp_err {cl np p n : Int} {ad : zk → Nat} {ar : zk → Int → Int} {pp pn : Int → Int} {pg : Int → Option Nat} {o : Nat → Int64} (h : cl ≠ 0) : zPp cl np p n ad ar pp pn pg (cl, o, ad, ar, np, pp, pn, pg) := ⟨rfl, fun _ => rfl, fun q => absurd q h⟩
theorem zPp_ok {np p n : Int} {ad ad' : zk → Nat} {ar ar' : zk → Int → Int} {pp pp' pn pn' : Int → Int} {pg pg' : Int → Option Nat} {o : Nat → Int64} {np' : Int} {h w : Nat} {pw : Int → Int} (ho : o 0 = zL np) (hw : zPW p n pw) (e : (ad', ar', np', pp', pn', pg') = (zAD ad np h w, zUA ar (3, np) pw, np + 1, zU pp np p, zU pn np n, zV pg np (some h))) : zPp 0 np p n ad ar pp pn pg (0, o, ad', ar', np', pp', pn', pg') := ⟨rfl, fun q => absurd rfl q, fun _ => ⟨ho, h, w, pw, hw, e⟩⟩
theorem zAD_o {ad : zk → Nat} {np : Int} {h w : Nat} {a : Nat} {b : Int} (h2 : a ≠ 2) (h3 : a ≠ 3) : zAD ad np h w (a, b) = ad (a, b) := by
  unfold zAD
  rw [if_neg (fun q => h2 (congrArg Prod.fst q)), if_neg (fun q => h3 (congrArg Prod.fst q))]
theorem zAD_l {ad : zk → Nat} {np : Int} {h w : Nat} {a : Nat} {b : Int} (hb : b ≠ np) : zAD ad np h w (a, b) = ad (a, b) := by
  unfold zAD
  rw [if_neg (fun q => hb (congrArg Prod.snd q)), if_neg (fun q => hb (congrArg Prod.snd q))]
theorem zAD_2 {ad : zk → Nat} {np : Int} {h w : Nat} : zAD ad np h w (2, np) = h := if_pos rfl
theorem zAD_3 {ad : zk → Nat} {np : Int} {h w : Nat} : zAD ad np h w (3, np) = w := by
  unfold zAD
  rw [if_neg (fun q => absurd (congrArg Prod.fst q) (by show ¬ ((3 : Nat) = 2); decide)), if_pos rfl]
theorem zRg_AD {ad : zk → Nat} {np : Int} {h w : Nat} : zRg (zAD ad np h w) = zRg ad := by
  unfold zRg
  rw [zAD_o (by decide) (by decide), zAD_o (by decide) (by decide), zAD_o (by decide) (by decide), zAD_o (by decide) (by decide)]
theorem zY_planN {cI cW cP cJ : ClassId} {ad : zk → Nat} {ar : zk → Int → Int} {c : Int → Int} {np p n : Int} {pp pn : Int → Int} {pg : Int → Option Nat} {o : Nat → Int64} {hp hw : Nat} {pw : Int → Int} : [(4, 0), (6, 0), (2, np), (3, np)].map (zY cI cW cP cJ (zAD ad np hp hw) (zUA ar (3, np) pw) c (np + 1) (zU pp np p) (zU pn np n) (zV pg np (some hp)) o) = [(ad (4, 0), .inr (4, [.ref (ad (5, 0)), .ref (ad (6, 0)), .int (zI (np + 1)), .ref (ad (7, 0)), .ref (ad (8, 0)), .ref (ad (9, 0)), .ref (ad (10, 0))])), (ad (6, 0), .inl (cP, 8, .inr (.inr (.inr (.inr (fun k : Nat => (zV pg np (some hp)) (k : Int))))))), (hp, .inr (1, [.int (zI p), .int (zI n), .int (zI (zInv p n)), .int (zI (wset n)), .int (zI (zGn n)), .ref hw])), (hw, .inl (cI, 64, .inl (zA pw)))] := by
  show ([(zAD ad np hp hw (4, 0), .inr (4, [.ref (zAD ad np hp hw (5, 0)), .ref (zAD ad np hp hw (6, 0)), .int (zI (np + 1)), .ref (zAD ad np hp hw (7, 0)), .ref (zAD ad np hp hw (8, 0)), .ref (zAD ad np hp hw (9, 0)), .ref (zAD ad np hp hw (10, 0))])), (zAD ad np hp hw (6, 0), .inl (cP, 8, .inr (.inr (.inr (.inr (fun k : Nat => (zV pg np (some hp)) (k : Int))))))), (zAD ad np hp hw (2, np), .inr (1, [.int (zI (zU pp np p np)), .int (zI (zU pn np n np)), .int (zI (zInv (zU pp np p np) (zU pn np n np))), .int (zI (wset (zU pn np n np))), .int (zI (zGn (zU pn np n np))), .ref (zAD ad np hp hw (3, np))])), (zAD ad np hp hw (3, np), .inl (cI, 64, .inl (zA (zUA ar (3, np) pw (3, np)))))] : va_W) = _
  rw [zAD_2, zAD_3, zU_s, zU_s, show zUA ar (3, np) pw (3, np) = pw from if_pos rfl, zAD_o (a := 4) (by decide) (by decide), zAD_o (a := 5) (by decide) (by decide), zAD_o (a := 6) (by decide) (by decide), zAD_o (a := 7) (by decide) (by decide), zAD_o (a := 8) (by decide) (by decide), zAD_o (a := 9) (by decide) (by decide), zAD_o (a := 10) (by decide) (by decide)]
theorem zY_plan18 {cI cW cP cJ : ClassId} (ad : zk → Nat) {ar : zk → Int → Int} {c : Int → Int} (np : Int) {np' : Int} {pp pn : Int → Int} {pg : Int → Option Nat} {o : Nat → Int64} (hp hw : Nat) : zY cI cW cP cJ (zAD ad np hp hw) ar c np' pp pn pg o (18, 0) = (ad (18, 0), .inl (cJ, 1, .inr (.inl o))) := by
  show ((zAD ad np hp hw (18, 0), .inl (cJ, 1, .inr (.inl o))) : Nat × va_E) = _
  rw [zAD_o (by decide) (by decide)]
theorem zY_planO {cI cW cP cJ : ClassId} {ad : zk → Nat} {ar : zk → Int → Int} {c : Int → Int} {np p n : Int} {pp pn : Int → Int} {pg : Int → Option Nat} {o : Nat → Int64} {hp hw : Nat} {pw : Int → Int} {k : zk} (hnp : 0 ≤ np ∧ np ≤ 8) (hk : zYK (np + 1) k) : k ∈ [(4, 0), (6, 0), (2, np), (3, np)] ∨ (zYK np k ∧ k ∉ [(4, 0), (6, 0)] ∧ zY cI cW cP cJ (zAD ad np hp hw) (zUA ar (3, np) pw) c (np + 1) (zU pp np p) (zU pn np n) (zV pg np (some hp)) o k = zY cI cW cP cJ ad ar c np pp pn pg o k) := by
  by_cases hm : k ∈ [(4, 0), (6, 0), (2, np), (3, np)]
  · exact Or.inl hm
  · refine Or.inr ?_
    simp only [List.mem_cons, List.not_mem_nil, or_false, not_or] at hm ⊢
    obtain ⟨h4, h6, h2, h3⟩ := hm
    obtain ⟨a, b⟩ := k
    have hk0 : zYK np (a, b) := by
      rcases hk with q | q | q
      · exact Or.inl q
      · have q1 := q.1; have q2 := q.2.1; have q3 := q.2.2.1; have q4 := q.2.2.2
        dsimp only at q1 q2 q3 q4
        refine Or.inr (Or.inl ⟨q1, q2, q3, ?_⟩)
        show b < np
        rcases Int.lt_or_le b np with z | z
        · exact z
        · have e : b = np := by omega
          subst e
          rcases (show a = 2 ∨ a = 3 by omega) with rfl | rfl
          · exact absurd rfl h2
          · exact absurd rfl h3
      · exact Or.inr (Or.inr q)
    refine ⟨hk0, ⟨h4, h6⟩, ?_⟩
    have hua : zUA ar (3, np) pw (a, b) = ar (a, b) := if_neg h3
    have ha : a ≤ 18 := by
      rcases hk0 with q | q | q
      · have := q.1; dsimp only at this; omega
      · have := q.2.1; dsimp only at this; omega
      · exact q.2.1
    have hb : a = 2 ∨ a = 3 → b ≠ np := by
      intro h
      rcases hk0 with q | q | q
      · have := q.1; dsimp only at this; omega
      · have := q.2.2.2; dsimp only at this; omega
      · have := q.1; dsimp only at this; omega
    have hb0 : 4 ≤ a → b = 0 := by
      intro h
      rcases hk0 with q | q | q
      · have := q.1; dsimp only at this; omega
      · have := q.2.1; dsimp only at this; omega
      · exact q.2.2
    have had : ∀ b : Int, (a = 2 ∨ a = 3 → b ≠ np) → zAD ad np hp hw (a, b) = ad (a, b) := fun b hb => by
      by_cases q : a = 2 ∨ a = 3
      · exact zAD_l (hb q)
      · exact zAD_o (fun z => q (Or.inl z)) (fun z => q (Or.inr z))
    have hadk := had b hb
    rcases (show a = 0 ∨ a = 1 ∨ a = 2 ∨ a = 3 ∨ a = 4 ∨ a = 5 ∨ a = 6 ∨ a = 7 ∨ a = 8 ∨ a = 9 ∨ a = 10 ∨ a = 11 ∨ a = 12 ∨ a = 13 ∨ a = 14 ∨ a = 15 ∨ a = 16 ∨ a = 17 ∨ a = 18 by omega) with rfl | rfl | rfl | rfl | rfl | rfl | rfl | rfl | rfl | rfl | rfl | rfl | rfl | rfl | rfl | rfl | rfl | rfl | rfl
    · show ((zAD ad np hp hw (0, b), Sum.inr (2, [.ref (zAD ad np hp hw (1, b)), .int (zI (c b))])) : Nat × va_E) = _
      rw [hadk, zAD_o (by decide) (by decide)]; rfl
    · show ((zAD ad np hp hw (1, b), Sum.inl (cI, 64, .inl (zA (zUA ar (3, np) pw (1, b))))) : Nat × va_E) = _
      rw [hadk, hua]; rfl
    · have e := hb (Or.inl rfl)
      show ((zAD ad np hp hw (2, b), Sum.inr (1, [.int (zI (zU pp np p b)), .int (zI (zU pn np n b)), .int (zI (zInv (zU pp np p b) (zU pn np n b))), .int (zI (wset (zU pn np n b))), .int (zI (zGn (zU pn np n b))), .ref (zAD ad np hp hw (3, b))])) : Nat × va_E) = _
      rw [hadk, zU_n _ _ e, zU_n _ _ e, zAD_l e]; rfl
    · show ((zAD ad np hp hw (3, b), Sum.inl (cI, 64, .inl (zA (zUA ar (3, np) pw (3, b))))) : Nat × va_E) = _
      rw [hadk, hua]; rfl
    · exact absurd (by rw [hb0 (by decide)]) h4
    · show ((zAD ad np hp hw (5, b), Sum.inl (cW, 4, .inr (.inr (.inr (.inr (fun k : Nat => zRg (zAD ad np hp hw) (k : Int))))))) : Nat × va_E) = _
      rw [hadk, zRg_AD]; rfl
    · exact absurd (by rw [hb0 (by decide)]) h6
    · show ((zAD ad np hp hw (7, b), Sum.inr (3, [.ref (zAD ad np hp hw (11, 0)), .ref (zAD ad np hp hw (12, 0)), .ref (zAD ad np hp hw (13, 0)), .ref (zAD ad np hp hw (14, 0)), .ref (zAD ad np hp hw (15, 0))])) : Nat × va_E) = _
      rw [hadk, zAD_o (a := 11) (by decide) (by decide), zAD_o (a := 12) (by decide) (by decide), zAD_o (a := 13) (by decide) (by decide), zAD_o (a := 14) (by decide) (by decide), zAD_o (a := 15) (by decide) (by decide)]; rfl
    · show ((zAD ad np hp hw (8, b), Sum.inr (0, [.ref (zAD ad np hp hw (16, 0)), .ref (zAD ad np hp hw (17, 0))])) : Nat × va_E) = _
      rw [hadk, zAD_o (a := 16) (by decide) (by decide), zAD_o (a := 17) (by decide) (by decide)]; rfl
    · show ((zAD ad np hp hw (9, b), Sum.inl (cI, 64, .inl (zA (zUA ar (3, np) pw (9, b))))) : Nat × va_E) = _
      rw [hadk, hua]; rfl
    · show ((zAD ad np hp hw (10, b), Sum.inl (cI, 64, .inl (zA (zUA ar (3, np) pw (10, b))))) : Nat × va_E) = _
      rw [hadk, hua]; rfl
    · show ((zAD ad np hp hw (11, b), Sum.inl (cI, 64, .inl (zA (zUA ar (3, np) pw (11, b))))) : Nat × va_E) = _
      rw [hadk, hua]; rfl
    · show ((zAD ad np hp hw (12, b), Sum.inl (cI, 64, .inl (zA (zUA ar (3, np) pw (12, b))))) : Nat × va_E) = _
      rw [hadk, hua]; rfl
    · show ((zAD ad np hp hw (13, b), Sum.inl (cI, 64, .inl (zA (zUA ar (3, np) pw (13, b))))) : Nat × va_E) = _
      rw [hadk, hua]; rfl
    · show ((zAD ad np hp hw (14, b), Sum.inl (cI, 64, .inl (zA (zUA ar (3, np) pw (14, b))))) : Nat × va_E) = _
      rw [hadk, hua]; rfl
    · show ((zAD ad np hp hw (15, b), Sum.inl (cI, 128, .inl (zA (zUA ar (3, np) pw (15, b))))) : Nat × va_E) = _
      rw [hadk, hua]; rfl
    · show ((zAD ad np hp hw (16, b), Sum.inl (cI, 64, .inl (zA (zUA ar (3, np) pw (16, b))))) : Nat × va_E) = _
      rw [hadk, hua]; rfl
    · show ((zAD ad np hp hw (17, b), Sum.inl (cI, 96, .inl (zA (zUA ar (3, np) pw (17, b))))) : Nat × va_E) = _
      rw [hadk, hua]; rfl
    · show ((zAD ad np hp hw (18, b), Sum.inl (cJ, 1, .inr (.inl o))) : Nat × va_E) = _
      rw [hadk]; rfl
set_option maxHeartbeats 4000000 in
theorem W_append (l : Launch) (hl9 : l.stackTraces = false) (D : va_G) (cI cW cP cJ : ClassId) (ad : zk → Nat) (ar : zk → Int → Int) (c : Int → Int) (np : Int) (pp pn : Int → Int) (pg : Int → Option Nat) (o : Nat → Int64) (a : Int) (x : Int) (hYI : zYI ad ar c np pp pn pg) (ha_a : -2147483648 ≤ a ∧ a ≤ 2147483647) (ha_x : -2147483648 ≤ x ∧ x ≤ 2147483647) : zWC l yL_append wsL_append D [(cI, .int), (cW, .object RX3), (cP, .object RX2), (cJ, .long)] (zYK np) (zY cI cW cP cJ ad ar c np pp pn pg o) [.ref (ad (4, 0)), .int (zI a), .int (zI x), .ref (ad (18, 0))] (S := Int × (Nat → Int64) × (Int → Int) × (zk → Int → Int)) (zWp (kAppend c a x) (c a + 1) True c ar a (c a + 1) (zU (zG ar c a) (c a) x)) (fun u => some (.int (zI u.1))) (fun _ => zYK np) (fun u => zY cI cW cP cJ ad u.2.2.2 u.2.2.1 np pp pn pg u.2.1) := by
  by_cases h1 : 0 ≤ a ∧ a < 4
  rotate_left
  · have ek : kAppend c a x = 1 := by unfold kAppend; rw [if_pos h1]
    rw [ek]
    exact w_append_e1 l hl9 D cI cW cP cJ ad ar c np pp pn pg o a x hYI (by first | omega | assumption) (by first | omega | assumption) (by first | omega | assumption)
  by_cases h2 : -9999 ≤ x ∧ x ≤ 9999
  rotate_left
  · have ek : kAppend c a x = 2 := by unfold kAppend; rw [if_neg (not_not_intro h1), if_pos h2]
    rw [ek]
    exact w_append_e2 l hl9 D cI cW cP cJ ad ar c np pp pn pg o a x hYI (by first | omega | assumption) (by first | omega | assumption) (by first | omega | assumption)
  by_cases h3 : c a = 64
  · have ek : kAppend c a x = 3 := by unfold kAppend; rw [if_neg (not_not_intro h1), if_neg (not_not_intro h2), if_pos h3]
    rw [ek]
    exact w_append_e3 l hl9 D cI cW cP cJ ad ar c np pp pn pg o a x hYI (by first | omega | assumption) (by first | omega | assumption) (by first | omega | assumption)
  have ek : kAppend c a x = 0 := by unfold kAppend; rw [if_neg (not_not_intro h1), if_neg (not_not_intro h2), if_neg h3]
  rw [ek]
  exact w_append_ok l hl9 D cI cW cP cJ ad ar c np pp pn pg o a x hYI (by first | omega | assumption) (by first | omega | assumption) (by first | omega | assumption)

set_option maxHeartbeats 4000000 in
theorem W_clear (l : Launch) (hl9 : l.stackTraces = false) (D : va_G) (cI cW cP cJ : ClassId) (ad : zk → Nat) (ar : zk → Int → Int) (c : Int → Int) (np : Int) (pp pn : Int → Int) (pg : Int → Option Nat) (o : Nat → Int64) (a : Int) (hYI : zYI ad ar c np pp pn pg) (ha_a : -2147483648 ≤ a ∧ a ≤ 2147483647) : zWC l yL_clear wsL_clear D [(cI, .int), (cW, .object RX3), (cP, .object RX2), (cJ, .long)] (zYK np) (zY cI cW cP cJ ad ar c np pp pn pg o) [.ref (ad (4, 0)), .int (zI a), .ref (ad (18, 0))] (S := Int × (Nat → Int64) × (Int → Int) × (zk → Int → Int)) (zWp (kRow a) (c a) True c ar a 0 (fun _ => 0)) (fun u => some (.int (zI u.1))) (fun _ => zYK np) (fun u => zY cI cW cP cJ ad u.2.2.2 u.2.2.1 np pp pn pg u.2.1) := by
  by_cases h1 : 0 ≤ a ∧ a < 4
  rotate_left
  · have ek : kRow a = 1 := by unfold kRow; rw [if_pos h1]
    rw [ek]
    exact w_clear_e1 l hl9 D cI cW cP cJ ad ar c np pp pn pg o a hYI (by first | omega | assumption) (by first | omega | assumption)
  have ek : kRow a = 0 := by unfold kRow; rw [if_neg (not_not_intro h1)]
  rw [ek]
  exact w_clear_ok l hl9 D cI cW cP cJ ad ar c np pp pn pg o a hYI (by first | omega | assumption)

set_option maxHeartbeats 4000000 in
theorem W_length (l : Launch) (hl9 : l.stackTraces = false) (D : va_G) (cI cW cP cJ : ClassId) (ad : zk → Nat) (ar : zk → Int → Int) (c : Int → Int) (np : Int) (pp pn : Int → Int) (pg : Int → Option Nat) (o : Nat → Int64) (a : Int) (hYI : zYI ad ar c np pp pn pg) (ha_a : -2147483648 ≤ a ∧ a ≤ 2147483647) : zWC l yL_length wsL_length D [(cI, .int), (cW, .object RX3), (cP, .object RX2), (cJ, .long)] (zYK np) (zY cI cW cP cJ ad ar c np pp pn pg o) [.ref (ad (4, 0)), .int (zI a), .ref (ad (18, 0))] (S := Int × (Nat → Int64) × (Int → Int) × (zk → Int → Int)) (zWp (kRow a) (c a) False c ar 0 0 (fun _ => 0)) (fun u => some (.int (zI u.1))) (fun _ => zYK np) (fun u => zY cI cW cP cJ ad u.2.2.2 u.2.2.1 np pp pn pg u.2.1) := by
  by_cases h1 : 0 ≤ a ∧ a < 4
  rotate_left
  · have ek : kRow a = 1 := by unfold kRow; rw [if_pos h1]
    rw [ek]
    exact w_length_e1 l hl9 D cI cW cP cJ ad ar c np pp pn pg o a hYI (by first | omega | assumption) (by first | omega | assumption)
  have ek : kRow a = 0 := by unfold kRow; rw [if_neg (not_not_intro h1)]
  rw [ek]
  exact w_length_ok l hl9 D cI cW cP cJ ad ar c np pp pn pg o a hYI (by first | omega | assumption)

set_option maxHeartbeats 4000000 in
theorem W_copy (l : Launch) (hl9 : l.stackTraces = false) (D : va_G) (cI cW cP cJ : ClassId) (ad : zk → Nat) (ar : zk → Int → Int) (c : Int → Int) (np : Int) (pp pn : Int → Int) (pg : Int → Option Nat) (o : Nat → Int64) (a : Int) (t : Int) (hYI : zYI ad ar c np pp pn pg) (ha_a : -2147483648 ≤ a ∧ a ≤ 2147483647) (ha_t : -2147483648 ≤ t ∧ t ≤ 2147483647) : zWC l yL_copy wsL_copy D [(cI, .int), (cW, .object RX3), (cP, .object RX2), (cJ, .long)] (zYK np) (zY cI cW cP cJ ad ar c np pp pn pg o) [.ref (ad (4, 0)), .int (zI a), .int (zI t), .ref (ad (18, 0))] (S := Int × (Nat → Int64) × (Int → Int) × (zk → Int → Int)) (zWp (kCopy a t) (c a) True c ar t (c a) (zG ar c a)) (fun u => some (.int (zI u.1))) (fun _ => zYK np) (fun u => zY cI cW cP cJ ad u.2.2.2 u.2.2.1 np pp pn pg u.2.1) := by
  by_cases h1 : 0 ≤ a ∧ a < 4
  rotate_left
  · have ek : kCopy a t = 1 := by unfold kCopy; rw [if_pos h1]
    rw [ek]
    exact w_copy_e1a l hl9 D cI cW cP cJ ad ar c np pp pn pg o a t hYI (by first | omega | assumption) (by first | omega | assumption) (by first | omega | assumption)
  by_cases h2 : 0 ≤ t ∧ t < 4
  rotate_left
  · have ek : kCopy a t = 1 := by unfold kCopy; rw [if_neg (not_not_intro h1), if_pos h2]
    rw [ek]
    exact w_copy_e1b l hl9 D cI cW cP cJ ad ar c np pp pn pg o a t hYI (by first | omega | assumption) (by first | omega | assumption) (by first | omega | assumption)
  have ek : kCopy a t = 0 := by unfold kCopy; rw [if_neg (not_not_intro h1), if_neg (not_not_intro h2)]
  rw [ek]
  by_cases q1 : a = t
  · exact w_copy_S l hl9 D cI cW cP cJ ad ar c np pp pn pg o a t hYI (by first | omega | assumption) (by first | omega | assumption) (by first | omega | assumption)
  · exact w_copy_D l hl9 D cI cW cP cJ ad ar c np pp pn pg o a t hYI (by first | omega | assumption) (by first | omega | assumption) (by first | omega | assumption)

set_option maxHeartbeats 4000000 in
theorem W_at (l : Launch) (hl9 : l.stackTraces = false) (D : va_G) (cI cW cP cJ : ClassId) (ad : zk → Nat) (ar : zk → Int → Int) (c : Int → Int) (np : Int) (pp pn : Int → Int) (pg : Int → Option Nat) (o : Nat → Int64) (a : Int) (x : Int) (hYI : zYI ad ar c np pp pn pg) (ha_a : -2147483648 ≤ a ∧ a ≤ 2147483647) (ha_x : -2147483648 ≤ x ∧ x ≤ 2147483647) : zWC l yL_at wsL_at D [(cI, .int), (cW, .object RX3), (cP, .object RX2), (cJ, .long)] (zYK np) (zY cI cW cP cJ ad ar c np pp pn pg o) [.ref (ad (4, 0)), .int (zI a), .int (zI x), .ref (ad (18, 0))] (S := Int × (Nat → Int64) × (Int → Int) × (zk → Int → Int)) (zWp (kAt c a x) (zG ar c a x) False c ar 0 0 (fun _ => 0)) (fun u => some (.int (zI u.1))) (fun _ => zYK np) (fun u => zY cI cW cP cJ ad u.2.2.2 u.2.2.1 np pp pn pg u.2.1) := by
  by_cases h1 : 0 ≤ a ∧ a < 4
  rotate_left
  · have ek : kAt c a x = 1 := by unfold kAt; rw [if_pos h1]
    rw [ek]
    exact w_at_e1a l hl9 D cI cW cP cJ ad ar c np pp pn pg o a x hYI (by first | omega | assumption) (by first | omega | assumption) (by first | omega | assumption)
  by_cases h2 : 0 ≤ x ∧ x < c a
  rotate_left
  · have ek : kAt c a x = 1 := by unfold kAt; rw [if_neg (not_not_intro h1), if_pos h2]
    rw [ek]
    exact w_at_e1b l hl9 D cI cW cP cJ ad ar c np pp pn pg o a x hYI (by first | omega | assumption) (by first | omega | assumption) (by first | omega | assumption)
  have ek : kAt c a x = 0 := by unfold kAt; rw [if_neg (not_not_intro h1), if_neg (not_not_intro h2)]
  rw [ek]
  exact w_at_ok l hl9 D cI cW cP cJ ad ar c np pp pn pg o a x hYI (by first | omega | assumption) (by first | omega | assumption)

set_option maxHeartbeats 4000000 in
theorem W_root (l : Launch) (hl9 : l.stackTraces = false) (D : va_G) (cI cW cP cJ : ClassId) (ad : zk → Nat) (ar : zk → Int → Int) (c : Int → Int) (np : Int) (pp pn : Int → Int) (pg : Int → Option Nat) (o : Nat → Int64) (i : Int) (hYI : zYI ad ar c np pp pn pg) (ha_i : -2147483648 ≤ i ∧ i ≤ 2147483647) : zWC l yL_root wsL_root D [(cI, .int), (cW, .object RX3), (cP, .object RX2), (cJ, .long)] (zYK np) (zY cI cW cP cJ ad ar c np pp pn pg o) [.ref (ad (4, 0)), .int (zI i), .ref (ad (18, 0))] (S := Int × (Nat → Int64) × (Int → Int) × (zk → Int → Int)) (zWp (kPl np i) (zRoot (pp i) (pn i)) False c ar 0 0 (fun _ => 0)) (fun u => some (.int (zI u.1))) (fun _ => zYK np) (fun u => zY cI cW cP cJ ad u.2.2.2 u.2.2.1 np pp pn pg u.2.1) := by
  by_cases h1 : 0 ≤ i ∧ i < np
  rotate_left
  · have ek : kPl np i = 1 := by unfold kPl; rw [if_pos h1]
    rw [ek]
    exact w_root_e1 l hl9 D cI cW cP cJ ad ar c np pp pn pg o i hYI (by first | omega | assumption) (by first | omega | assumption)
  have ek : kPl np i = 0 := by unfold kPl; rw [if_neg (not_not_intro h1)]
  rw [ek]
  exact w_root_ok l hl9 D cI cW cP cJ ad ar c np pp pn pg o i hYI (by first | omega | assumption)

set_option maxHeartbeats 4000000 in
theorem W_ways (l : Launch) (hl9 : l.stackTraces = false) (D : va_G) (cI cW cP cJ : ClassId) (ad : zk → Nat) (ar : zk → Int → Int) (c : Int → Int) (np : Int) (pp pn : Int → Int) (pg : Int → Option Nat) (o : Nat → Int64) (i : Int) (hYI : zYI ad ar c np pp pn pg) (ha_i : -2147483648 ≤ i ∧ i ≤ 2147483647) : zWC l yL_ways wsL_ways D [(cI, .int), (cW, .object RX3), (cP, .object RX2), (cJ, .long)] (zYK np) (zY cI cW cP cJ ad ar c np pp pn pg o) [.ref (ad (4, 0)), .int (zI i), .ref (ad (18, 0))] (S := Int × (Nat → Int64) × (Int → Int) × (zk → Int → Int)) (zWp (kPl np i) (wset (pn i)) False c ar 0 0 (fun _ => 0)) (fun u => some (.int (zI u.1))) (fun _ => zYK np) (fun u => zY cI cW cP cJ ad u.2.2.2 u.2.2.1 np pp pn pg u.2.1) := by
  by_cases h1 : 0 ≤ i ∧ i < np
  rotate_left
  · have ek : kPl np i = 1 := by unfold kPl; rw [if_pos h1]
    rw [ek]
    exact w_ways_e1 l hl9 D cI cW cP cJ ad ar c np pp pn pg o i hYI (by first | omega | assumption) (by first | omega | assumption)
  have ek : kPl np i = 0 := by unfold kPl; rw [if_neg (not_not_intro h1)]
  rw [ek]
  exact w_ways_ok l hl9 D cI cW cP cJ ad ar c np pp pn pg o i hYI (by first | omega | assumption)

set_option maxHeartbeats 4000000 in
theorem W_sum (l : Launch) (hl9 : l.stackTraces = false) (D : va_G) (cI cW cP cJ : ClassId) (ad : zk → Nat) (ar : zk → Int → Int) (c : Int → Int) (np : Int) (pp pn : Int → Int) (pg : Int → Option Nat) (o : Nat → Int64) (i : Int) (a : Int) (x : Int) (hYI : zYI ad ar c np pp pn pg) (ha_i : -2147483648 ≤ i ∧ i ≤ 2147483647) (ha_a : -2147483648 ≤ a ∧ a ≤ 2147483647) (ha_x : -2147483648 ≤ x ∧ x ≤ 2147483647) : zWC l yL_sum wsL_sum D [(cI, .int), (cW, .object RX3), (cP, .object RX2), (cJ, .long)] (zYK np) (zY cI cW cP cJ ad ar c np pp pn pg o) [.ref (ad (4, 0)), .int (zI i), .int (zI a), .int (zI x), .ref (ad (18, 0))] (S := Int × (Nat → Int64) × (Int → Int) × (zk → Int → Int)) (zWp (kSum c np pn i a x) (sumR (pp i) (pn i) (zRoot (pp i) (pn i)) (fun j => zG ar c a j % pp i) x) False c ar 0 0 (fun _ => 0)) (fun u => some (.int (zI u.1))) (fun _ => zYK np) (fun u => zY cI cW cP cJ ad u.2.2.2 u.2.2.1 np pp pn pg u.2.1) := by
  by_cases h1 : 0 ≤ i ∧ i < np
  rotate_left
  · have ek : kSum c np pn i a x = 1 := by unfold kSum; rw [if_pos h1]
    rw [ek]
    exact w_sum_e1a l hl9 D cI cW cP cJ ad ar c np pp pn pg o i a x hYI (by first | omega | assumption) (by first | omega | assumption) (by first | omega | assumption) (by first | omega | assumption)
  by_cases h2 : 0 ≤ a ∧ a < 4
  rotate_left
  · have ek : kSum c np pn i a x = 1 := by unfold kSum; rw [if_neg (not_not_intro h1), if_pos h2]
    rw [ek]
    exact w_sum_e1b l hl9 D cI cW cP cJ ad ar c np pp pn pg o i a x hYI (by first | omega | assumption) (by first | omega | assumption) (by first | omega | assumption) (by first | omega | assumption)
  by_cases h3 : 0 ≤ x ∧ x < pn i
  rotate_left
  · have ek : kSum c np pn i a x = 1 := by unfold kSum; rw [if_neg (not_not_intro h1), if_neg (not_not_intro h2), if_pos h3]
    rw [ek]
    exact w_sum_e1c l hl9 D cI cW cP cJ ad ar c np pp pn pg o i a x hYI (by first | omega | assumption) (by first | omega | assumption) (by first | omega | assumption) (by first | omega | assumption)
  by_cases h4 : pn i < c a
  · have ek : kSum c np pn i a x = 2 := by unfold kSum; rw [if_neg (not_not_intro h1), if_neg (not_not_intro h2), if_neg (not_not_intro h3), if_pos h4]
    rw [ek]
    exact w_sum_e2 l hl9 D cI cW cP cJ ad ar c np pp pn pg o i a x hYI (by first | omega | assumption) (by first | omega | assumption) (by first | omega | assumption) (by first | omega | assumption)
  have ek : kSum c np pn i a x = 0 := by unfold kSum; rw [if_neg (not_not_intro h1), if_neg (not_not_intro h2), if_neg (not_not_intro h3), if_neg h4]
  rw [ek]
  exact w_sum_ok l hl9 D cI cW cP cJ ad ar c np pp pn pg o i a x hYI (by first | omega | assumption) (by first | omega | assumption) (by first | omega | assumption) (by first | omega | assumption)

set_option maxHeartbeats 4000000 in
theorem W_convolve (l : Launch) (hl9 : l.stackTraces = false) (D : va_G) (cI cW cP cJ : ClassId) (ad : zk → Nat) (ar : zk → Int → Int) (c : Int → Int) (np : Int) (pp pn : Int → Int) (pg : Int → Option Nat) (o : Nat → Int64) (i : Int) (a : Int) (b : Int) (t : Int) (hYI : zYI ad ar c np pp pn pg) (ha_i : -2147483648 ≤ i ∧ i ≤ 2147483647) (ha_a : -2147483648 ≤ a ∧ a ≤ 2147483647) (ha_b : -2147483648 ≤ b ∧ b ≤ 2147483647) (ha_t : -2147483648 ≤ t ∧ t ≤ 2147483647) : zWC l yL_convolve wsL_convolve D [(cI, .int), (cW, .object RX3), (cP, .object RX2), (cJ, .long)] (zYK np) (zY cI cW cP cJ ad ar c np pp pn pg o) [.ref (ad (4, 0)), .int (zI i), .int (zI a), .int (zI b), .int (zI t), .ref (ad (18, 0))] (S := Int × (Nat → Int64) × (Int → Int) × (zk → Int → Int)) (zWp (kConv c np pn i a b t) (pn i) True c ar t (pn i) (cyc (pp i) (pn i) (fun j => zG ar c a j % pp i) (fun j => zG ar c b j % pp i))) (fun u => some (.int (zI u.1))) (fun _ => zYK np) (fun u => zY cI cW cP cJ ad u.2.2.2 u.2.2.1 np pp pn pg u.2.1) := by
  by_cases h1 : 0 ≤ i ∧ i < np
  rotate_left
  · have ek : kConv c np pn i a b t = 1 := by unfold kConv; rw [if_pos h1]
    rw [ek]
    exact w_convolve_e1a l hl9 D cI cW cP cJ ad ar c np pp pn pg o i a b t hYI (by first | omega | assumption) (by first | omega | assumption) (by first | omega | assumption) (by first | omega | assumption) (by first | omega | assumption)
  by_cases h2 : 0 ≤ a ∧ a < 4
  rotate_left
  · have ek : kConv c np pn i a b t = 1 := by unfold kConv; rw [if_neg (not_not_intro h1), if_pos h2]
    rw [ek]
    exact w_convolve_e1b l hl9 D cI cW cP cJ ad ar c np pp pn pg o i a b t hYI (by first | omega | assumption) (by first | omega | assumption) (by first | omega | assumption) (by first | omega | assumption) (by first | omega | assumption)
  by_cases h3 : 0 ≤ b ∧ b < 4
  rotate_left
  · have ek : kConv c np pn i a b t = 1 := by unfold kConv; rw [if_neg (not_not_intro h1), if_neg (not_not_intro h2), if_pos h3]
    rw [ek]
    exact w_convolve_e1c l hl9 D cI cW cP cJ ad ar c np pp pn pg o i a b t hYI (by first | omega | assumption) (by first | omega | assumption) (by first | omega | assumption) (by first | omega | assumption) (by first | omega | assumption)
  by_cases h4 : 0 ≤ t ∧ t < 4
  rotate_left
  · have ek : kConv c np pn i a b t = 1 := by unfold kConv; rw [if_neg (not_not_intro h1), if_neg (not_not_intro h2), if_neg (not_not_intro h3), if_pos h4]
    rw [ek]
    exact w_convolve_e1d l hl9 D cI cW cP cJ ad ar c np pp pn pg o i a b t hYI (by first | omega | assumption) (by first | omega | assumption) (by first | omega | assumption) (by first | omega | assumption) (by first | omega | assumption)
  by_cases h5 : pn i < c a
  · have ek : kConv c np pn i a b t = 2 := by unfold kConv; rw [if_neg (not_not_intro h1), if_neg (not_not_intro h2), if_neg (not_not_intro h3), if_neg (not_not_intro h4), if_pos h5]
    rw [ek]
    exact w_convolve_e2a l hl9 D cI cW cP cJ ad ar c np pp pn pg o i a b t hYI (by first | omega | assumption) (by first | omega | assumption) (by first | omega | assumption) (by first | omega | assumption) (by first | omega | assumption)
  by_cases h6 : pn i < c b
  · have ek : kConv c np pn i a b t = 2 := by unfold kConv; rw [if_neg (not_not_intro h1), if_neg (not_not_intro h2), if_neg (not_not_intro h3), if_neg (not_not_intro h4), if_neg h5, if_pos h6]
    rw [ek]
    exact w_convolve_e2b l hl9 D cI cW cP cJ ad ar c np pp pn pg o i a b t hYI (by first | omega | assumption) (by first | omega | assumption) (by first | omega | assumption) (by first | omega | assumption) (by first | omega | assumption) (by first | omega | assumption)
  have ek : kConv c np pn i a b t = 0 := by unfold kConv; rw [if_neg (not_not_intro h1), if_neg (not_not_intro h2), if_neg (not_not_intro h3), if_neg (not_not_intro h4), if_neg h5, if_neg h6]
  rw [ek]
  by_cases q1 : a = t
  · by_cases q2 : a = b
    · exact w_convolve_S l hl9 D cI cW cP cJ ad ar c np pp pn pg o i a b t hYI (by first | omega | assumption) (by first | omega | assumption) (by first | omega | assumption) (by first | omega | assumption) (by first | omega | assumption) (by first | omega | assumption) (by first | omega | assumption) (by first | omega | assumption)
    · exact w_convolve_A l hl9 D cI cW cP cJ ad ar c np pp pn pg o i a b t hYI (by first | omega | assumption) (by first | omega | assumption) (by first | omega | assumption) (by first | omega | assumption) (by first | omega | assumption) (by first | omega | assumption) (by first | omega | assumption) (by first | omega | assumption)
  · by_cases q2 : b = t
    · exact w_convolve_B l hl9 D cI cW cP cJ ad ar c np pp pn pg o i a b t hYI (by first | omega | assumption) (by first | omega | assumption) (by first | omega | assumption) (by first | omega | assumption) (by first | omega | assumption) (by first | omega | assumption) (by first | omega | assumption) (by first | omega | assumption)
    · exact w_convolve_D l hl9 D cI cW cP cJ ad ar c np pp pn pg o i a b t hYI (by first | omega | assumption) (by first | omega | assumption) (by first | omega | assumption) (by first | omega | assumption) (by first | omega | assumption) (by first | omega | assumption) (by first | omega | assumption) (by first | omega | assumption)

set_option maxHeartbeats 4000000 in
theorem W_convolved (l : Launch) (hl9 : l.stackTraces = false) (D : va_G) (cI cW cP cJ : ClassId) (ad : zk → Nat) (ar : zk → Int → Int) (c : Int → Int) (np : Int) (pp pn : Int → Int) (pg : Int → Option Nat) (o : Nat → Int64) (i : Int) (a : Int) (b : Int) (x : Int) (hYI : zYI ad ar c np pp pn pg) (ha_i : -2147483648 ≤ i ∧ i ≤ 2147483647) (ha_a : -2147483648 ≤ a ∧ a ≤ 2147483647) (ha_b : -2147483648 ≤ b ∧ b ≤ 2147483647) (ha_x : -2147483648 ≤ x ∧ x ≤ 2147483647) : zWC l yL_convolved wsL_convolved D [(cI, .int), (cW, .object RX3), (cP, .object RX2), (cJ, .long)] (zYK np) (zY cI cW cP cJ ad ar c np pp pn pg o) [.ref (ad (4, 0)), .int (zI i), .int (zI a), .int (zI b), .int (zI x), .ref (ad (18, 0))] (S := Int × (Nat → Int64) × (Int → Int) × (zk → Int → Int)) (zWp (kConvd c np pn i a b x) (cyc (pp i) (pn i) (fun j => zG ar c a j % pp i) (fun j => zG ar c b j % pp i) x) False c ar 0 0 (fun _ => 0)) (fun u => some (.int (zI u.1))) (fun _ => zYK np) (fun u => zY cI cW cP cJ ad u.2.2.2 u.2.2.1 np pp pn pg u.2.1) := by
  by_cases h1 : 0 ≤ i ∧ i < np
  rotate_left
  · have ek : kConvd c np pn i a b x = 1 := by unfold kConvd; rw [if_pos h1]
    rw [ek]
    exact w_convolved_e1a l hl9 D cI cW cP cJ ad ar c np pp pn pg o i a b x hYI (by first | omega | assumption) (by first | omega | assumption) (by first | omega | assumption) (by first | omega | assumption) (by first | omega | assumption)
  by_cases h2 : 0 ≤ a ∧ a < 4
  rotate_left
  · have ek : kConvd c np pn i a b x = 1 := by unfold kConvd; rw [if_neg (not_not_intro h1), if_pos h2]
    rw [ek]
    exact w_convolved_e1b l hl9 D cI cW cP cJ ad ar c np pp pn pg o i a b x hYI (by first | omega | assumption) (by first | omega | assumption) (by first | omega | assumption) (by first | omega | assumption) (by first | omega | assumption)
  by_cases h3 : 0 ≤ b ∧ b < 4
  rotate_left
  · have ek : kConvd c np pn i a b x = 1 := by unfold kConvd; rw [if_neg (not_not_intro h1), if_neg (not_not_intro h2), if_pos h3]
    rw [ek]
    exact w_convolved_e1c l hl9 D cI cW cP cJ ad ar c np pp pn pg o i a b x hYI (by first | omega | assumption) (by first | omega | assumption) (by first | omega | assumption) (by first | omega | assumption) (by first | omega | assumption)
  by_cases h4 : 0 ≤ x ∧ x < pn i
  rotate_left
  · have ek : kConvd c np pn i a b x = 1 := by unfold kConvd; rw [if_neg (not_not_intro h1), if_neg (not_not_intro h2), if_neg (not_not_intro h3), if_pos h4]
    rw [ek]
    exact w_convolved_e1d l hl9 D cI cW cP cJ ad ar c np pp pn pg o i a b x hYI (by first | omega | assumption) (by first | omega | assumption) (by first | omega | assumption) (by first | omega | assumption) (by first | omega | assumption)
  by_cases h5 : pn i < c a
  · have ek : kConvd c np pn i a b x = 2 := by unfold kConvd; rw [if_neg (not_not_intro h1), if_neg (not_not_intro h2), if_neg (not_not_intro h3), if_neg (not_not_intro h4), if_pos h5]
    rw [ek]
    exact w_convolved_e2a l hl9 D cI cW cP cJ ad ar c np pp pn pg o i a b x hYI (by first | omega | assumption) (by first | omega | assumption) (by first | omega | assumption) (by first | omega | assumption) (by first | omega | assumption)
  by_cases h6 : pn i < c b
  · have ek : kConvd c np pn i a b x = 2 := by unfold kConvd; rw [if_neg (not_not_intro h1), if_neg (not_not_intro h2), if_neg (not_not_intro h3), if_neg (not_not_intro h4), if_neg h5, if_pos h6]
    rw [ek]
    exact w_convolved_e2b l hl9 D cI cW cP cJ ad ar c np pp pn pg o i a b x hYI (by first | omega | assumption) (by first | omega | assumption) (by first | omega | assumption) (by first | omega | assumption) (by first | omega | assumption) (by first | omega | assumption)
  have ek : kConvd c np pn i a b x = 0 := by unfold kConvd; rw [if_neg (not_not_intro h1), if_neg (not_not_intro h2), if_neg (not_not_intro h3), if_neg (not_not_intro h4), if_neg h5, if_neg h6]
  rw [ek]
  exact w_convolved_ok l hl9 D cI cW cP cJ ad ar c np pp pn pg o i a b x hYI (by first | omega | assumption) (by first | omega | assumption) (by first | omega | assumption) (by first | omega | assumption) (by first | omega | assumption) (by first | omega | assumption)

set_option maxHeartbeats 4000000 in
theorem W_forward (l : Launch) (hl9 : l.stackTraces = false) (D : va_G) (cI cW cP cJ : ClassId) (ad : zk → Nat) (ar : zk → Int → Int) (c : Int → Int) (np : Int) (pp pn : Int → Int) (pg : Int → Option Nat) (o : Nat → Int64) (i : Int) (a : Int) (w : Int) (hYI : zYI ad ar c np pp pn pg) (ha_i : -2147483648 ≤ i ∧ i ≤ 2147483647) (ha_a : -2147483648 ≤ a ∧ a ≤ 2147483647) (ha_w : -2147483648 ≤ w ∧ w ≤ 2147483647) : zWC l yL_forward wsL_forward D [(cI, .int), (cW, .object RX3), (cP, .object RX2), (cJ, .long)] (zYK np) (zY cI cW cP cJ ad ar c np pp pn pg o) [.ref (ad (4, 0)), .int (zI i), .int (zI a), .int (zI w), .ref (ad (18, 0))] (S := Int × (Nat → Int64) × (Int → Int) × (zk → Int → Int)) (zWp (kTr c np pn i a w) (vFw (pp i) (pn i) (fun j => zG ar c a j % pp i) 0) True c ar a (pn i) (vFw (pp i) (pn i) (fun j => zG ar c a j % pp i))) (fun u => some (.int (zI u.1))) (fun _ => zYK np) (fun u => zY cI cW cP cJ ad u.2.2.2 u.2.2.1 np pp pn pg u.2.1) := by
  by_cases h1 : 0 ≤ i ∧ i < np
  rotate_left
  · have ek : kTr c np pn i a w = 1 := by unfold kTr; rw [if_pos h1]
    rw [ek]
    exact w_forward_e1a l hl9 D cI cW cP cJ ad ar c np pp pn pg o i a w hYI (by first | omega | assumption) (by first | omega | assumption) (by first | omega | assumption) (by first | omega | assumption)
  by_cases h2 : 0 ≤ a ∧ a < 4
  rotate_left
  · have ek : kTr c np pn i a w = 1 := by unfold kTr; rw [if_neg (not_not_intro h1), if_pos h2]
    rw [ek]
    exact w_forward_e1b l hl9 D cI cW cP cJ ad ar c np pp pn pg o i a w hYI (by first | omega | assumption) (by first | omega | assumption) (by first | omega | assumption) (by first | omega | assumption)
  by_cases h3 : 0 ≤ w ∧ w ≤ 4 ∧ wset (pn i) / 2 ^ w.toNat % 2 = 1
  rotate_left
  · have ek : kTr c np pn i a w = 2 := by unfold kTr; rw [if_neg (not_not_intro h1), if_neg (not_not_intro h2), if_pos h3]
    rw [ek]
    exact w_forward_e2 l hl9 D cI cW cP cJ ad ar c np pp pn pg o i a w hYI (by first | omega | assumption) (by first | omega | assumption) (by first | omega | assumption) h3
  by_cases h4 : pn i < c a
  · have ek : kTr c np pn i a w = 3 := by unfold kTr; rw [if_neg (not_not_intro h1), if_neg (not_not_intro h2), if_neg (not_not_intro h3), if_pos h4]
    rw [ek]
    exact w_forward_e3 l hl9 D cI cW cP cJ ad ar c np pp pn pg o i a w hYI (by first | omega | assumption) (by first | omega | assumption) (by omega) h3.2.2 (by first | omega | assumption)
  have ek : kTr c np pn i a w = 0 := by unfold kTr; rw [if_neg (not_not_intro h1), if_neg (not_not_intro h2), if_neg (not_not_intro h3), if_neg h4]
  rw [ek]
  exact w_forward_ok l hl9 D cI cW cP cJ ad ar c np pp pn pg o i a w hYI (by first | omega | assumption) (by first | omega | assumption) (by omega) h3.2.2 (by first | omega | assumption)

set_option maxHeartbeats 4000000 in
theorem W_backward (l : Launch) (hl9 : l.stackTraces = false) (D : va_G) (cI cW cP cJ : ClassId) (ad : zk → Nat) (ar : zk → Int → Int) (c : Int → Int) (np : Int) (pp pn : Int → Int) (pg : Int → Option Nat) (o : Nat → Int64) (i : Int) (a : Int) (w : Int) (hYI : zYI ad ar c np pp pn pg) (ha_i : -2147483648 ≤ i ∧ i ≤ 2147483647) (ha_a : -2147483648 ≤ a ∧ a ≤ 2147483647) (ha_w : -2147483648 ≤ w ∧ w ≤ 2147483647) : zWC l yL_backward wsL_backward D [(cI, .int), (cW, .object RX3), (cP, .object RX2), (cJ, .long)] (zYK np) (zY cI cW cP cJ ad ar c np pp pn pg o) [.ref (ad (4, 0)), .int (zI i), .int (zI a), .int (zI w), .ref (ad (18, 0))] (S := Int × (Nat → Int64) × (Int → Int) × (zk → Int → Int)) (zWp (kTr c np pn i a w) (vBk (pp i) (pn i) (fun j => zG ar c a j % pp i) 0) True c ar a (pn i) (vBk (pp i) (pn i) (fun j => zG ar c a j % pp i))) (fun u => some (.int (zI u.1))) (fun _ => zYK np) (fun u => zY cI cW cP cJ ad u.2.2.2 u.2.2.1 np pp pn pg u.2.1) := by
  by_cases h1 : 0 ≤ i ∧ i < np
  rotate_left
  · have ek : kTr c np pn i a w = 1 := by unfold kTr; rw [if_pos h1]
    rw [ek]
    exact w_backward_e1a l hl9 D cI cW cP cJ ad ar c np pp pn pg o i a w hYI (by first | omega | assumption) (by first | omega | assumption) (by first | omega | assumption) (by first | omega | assumption)
  by_cases h2 : 0 ≤ a ∧ a < 4
  rotate_left
  · have ek : kTr c np pn i a w = 1 := by unfold kTr; rw [if_neg (not_not_intro h1), if_pos h2]
    rw [ek]
    exact w_backward_e1b l hl9 D cI cW cP cJ ad ar c np pp pn pg o i a w hYI (by first | omega | assumption) (by first | omega | assumption) (by first | omega | assumption) (by first | omega | assumption)
  by_cases h3 : 0 ≤ w ∧ w ≤ 4 ∧ wset (pn i) / 2 ^ w.toNat % 2 = 1
  rotate_left
  · have ek : kTr c np pn i a w = 2 := by unfold kTr; rw [if_neg (not_not_intro h1), if_neg (not_not_intro h2), if_pos h3]
    rw [ek]
    exact w_backward_e2 l hl9 D cI cW cP cJ ad ar c np pp pn pg o i a w hYI (by first | omega | assumption) (by first | omega | assumption) (by first | omega | assumption) h3
  by_cases h4 : pn i < c a
  · have ek : kTr c np pn i a w = 3 := by unfold kTr; rw [if_neg (not_not_intro h1), if_neg (not_not_intro h2), if_neg (not_not_intro h3), if_pos h4]
    rw [ek]
    exact w_backward_e3 l hl9 D cI cW cP cJ ad ar c np pp pn pg o i a w hYI (by first | omega | assumption) (by first | omega | assumption) (by omega) h3.2.2 (by first | omega | assumption)
  have ek : kTr c np pn i a w = 0 := by unfold kTr; rw [if_neg (not_not_intro h1), if_neg (not_not_intro h2), if_neg (not_not_intro h3), if_neg h4]
  rw [ek]
  exact w_backward_ok l hl9 D cI cW cP cJ ad ar c np pp pn pg o i a w hYI (by first | omega | assumption) (by first | omega | assumption) (by omega) h3.2.2 (by first | omega | assumption)

set_option maxHeartbeats 4000000 in
theorem W_filter (l : Launch) (hl9 : l.stackTraces = false) (D : va_G) (cI cW cP cJ : ClassId) (ad : zk → Nat) (ar : zk → Int → Int) (c : Int → Int) (np : Int) (pp pn : Int → Int) (pg : Int → Option Nat) (o : Nat → Int64) (a : Int) (b : Int) (t : Int) (bl : Int) (sv : Int) (hYI : zYI ad ar c np pp pn pg) (ha_a : -2147483648 ≤ a ∧ a ≤ 2147483647) (ha_b : -2147483648 ≤ b ∧ b ≤ 2147483647) (ha_t : -2147483648 ≤ t ∧ t ≤ 2147483647) (ha_bl : -2147483648 ≤ bl ∧ bl ≤ 2147483647) (ha_sv : -2147483648 ≤ sv ∧ sv ≤ 2147483647) (hsv : 0 ≤ sv ∧ sv ≤ 1) : zWC l yL_filter wsL_filter D [(cI, .int), (cW, .object RX3), (cP, .object RX2), (cJ, .long)] (zYK np) (zY cI cW cP cJ ad ar c np pp pn pg o) [.ref (ad (4, 0)), .int (zI a), .int (zI b), .int (zI t), .int (zI bl), .int (zI sv), .ref (ad (18, 0))] (S := Int × (Nat → Int64) × (Int → Int) × (zk → Int → Int)) (zWp (kFilter (zG ar c) c a b t bl) (c a + c b - 1) True c ar t (c a + c b - 1) (zLn (zG ar c) c a b)) (fun u => some (.int (zI u.1))) (fun _ => zYK np) (fun u => zY cI cW cP cJ ad u.2.2.2 u.2.2.1 np pp pn pg u.2.1) := by
  by_cases h1 : 0 ≤ a ∧ a < 4
  rotate_left
  · have ek : kFilter (zG ar c) c a b t bl = 1 := by unfold kFilter; rw [if_pos h1]
    rw [ek]
    exact w_filter_e1a l hl9 D cI cW cP cJ ad ar c np pp pn pg o a b t bl sv hYI (by first | omega | assumption) (by first | omega | assumption) (by first | omega | assumption) (by first | omega | assumption) (by first | omega | assumption) (by first | omega | assumption)
  by_cases h2 : 0 ≤ b ∧ b < 4
  rotate_left
  · have ek : kFilter (zG ar c) c a b t bl = 1 := by unfold kFilter; rw [if_neg (not_not_intro h1), if_pos h2]
    rw [ek]
    exact w_filter_e1b l hl9 D cI cW cP cJ ad ar c np pp pn pg o a b t bl sv hYI (by first | omega | assumption) (by first | omega | assumption) (by first | omega | assumption) (by first | omega | assumption) (by first | omega | assumption) (by first | omega | assumption)
  by_cases h3 : 0 ≤ t ∧ t < 4
  rotate_left
  · have ek : kFilter (zG ar c) c a b t bl = 1 := by unfold kFilter; rw [if_neg (not_not_intro h1), if_neg (not_not_intro h2), if_pos h3]
    rw [ek]
    exact w_filter_e1c l hl9 D cI cW cP cJ ad ar c np pp pn pg o a b t bl sv hYI (by first | omega | assumption) (by first | omega | assumption) (by first | omega | assumption) (by first | omega | assumption) (by first | omega | assumption) (by first | omega | assumption)
  by_cases h4 : 1 ≤ bl ∧ bl ≤ 32
  rotate_left
  · have ek : kFilter (zG ar c) c a b t bl = 2 := by unfold kFilter; rw [if_neg (not_not_intro h1), if_neg (not_not_intro h2), if_neg (not_not_intro h3), if_pos h4]
    rw [ek]
    exact w_filter_e2p l hl9 D cI cW cP cJ ad ar c np pp pn pg o a b t bl sv hYI (by first | omega | assumption) (by first | omega | assumption) (by first | omega | assumption) (by first | omega | assumption) (by first | omega | assumption) (by first | omega | assumption)
  by_cases h5 : zWb (zG ar c) c (-99) 99 a = true
  rotate_left
  · have ek : kFilter (zG ar c) c a b t bl = 2 := by unfold kFilter; rw [if_neg (not_not_intro h1), if_neg (not_not_intro h2), if_neg (not_not_intro h3), if_neg (not_not_intro h4), if_pos h5]
    rw [ek]
    exact w_filter_e2a l hl9 D cI cW cP cJ ad ar c np pp pn pg o a b t bl sv hYI (by first | omega | assumption) (by first | omega | assumption) (by first | omega | assumption) (by first | omega | assumption) (by first | omega | assumption) (by first | omega | assumption) (fun q => h5 ((zWb_ar (by have := hYI.2.1 a (by omega); omega)).mpr q))
  by_cases h6 : zWb (zG ar c) c (-99) 99 b = true
  rotate_left
  · have ek : kFilter (zG ar c) c a b t bl = 2 := by unfold kFilter; rw [if_neg (not_not_intro h1), if_neg (not_not_intro h2), if_neg (not_not_intro h3), if_neg (not_not_intro h4), if_neg (not_not_intro h5), if_pos h6]
    rw [ek]
    exact w_filter_e2b l hl9 D cI cW cP cJ ad ar c np pp pn pg o a b t bl sv hYI (by first | omega | assumption) (by first | omega | assumption) (by first | omega | assumption) (by first | omega | assumption) (by first | omega | assumption) (by first | omega | assumption) ((zWb_ar (by have := hYI.2.1 a (by omega); omega)).mp h5) (fun q => h6 ((zWb_ar (by have := hYI.2.1 b (by omega); omega)).mpr q))
  by_cases h7 : c a = 0
  · have ek : kFilter (zG ar c) c a b t bl = 3 := by unfold kFilter; rw [if_neg (not_not_intro h1), if_neg (not_not_intro h2), if_neg (not_not_intro h3), if_neg (not_not_intro h4), if_neg (not_not_intro h5), if_neg (not_not_intro h6), if_pos h7]
    rw [ek]
    exact w_filter_e3a l hl9 D cI cW cP cJ ad ar c np pp pn pg o a b t bl sv hYI (by first | omega | assumption) (by first | omega | assumption) (by first | omega | assumption) (by first | omega | assumption) (by first | omega | assumption) (by first | omega | assumption) ((zWb_ar (by have := hYI.2.1 a (by omega); omega)).mp h5) ((zWb_ar (by have := hYI.2.1 b (by omega); omega)).mp h6) (by first | omega | assumption)
  by_cases h8 : c b = 0
  · have ek : kFilter (zG ar c) c a b t bl = 3 := by unfold kFilter; rw [if_neg (not_not_intro h1), if_neg (not_not_intro h2), if_neg (not_not_intro h3), if_neg (not_not_intro h4), if_neg (not_not_intro h5), if_neg (not_not_intro h6), if_neg h7, if_pos h8]
    rw [ek]
    exact w_filter_e3b l hl9 D cI cW cP cJ ad ar c np pp pn pg o a b t bl sv hYI (by first | omega | assumption) (by first | omega | assumption) (by first | omega | assumption) (by first | omega | assumption) (by first | omega | assumption) (by first | omega | assumption) ((zWb_ar (by have := hYI.2.1 a (by omega); omega)).mp h5) ((zWb_ar (by have := hYI.2.1 b (by omega); omega)).mp h6) (by first | omega | assumption) (by first | omega | assumption)
  by_cases h9 : 65 < c a + c b
  · have ek : kFilter (zG ar c) c a b t bl = 3 := by unfold kFilter; rw [if_neg (not_not_intro h1), if_neg (not_not_intro h2), if_neg (not_not_intro h3), if_neg (not_not_intro h4), if_neg (not_not_intro h5), if_neg (not_not_intro h6), if_neg h7, if_neg h8, if_pos h9]
    rw [ek]
    exact w_filter_e3c l hl9 D cI cW cP cJ ad ar c np pp pn pg o a b t bl sv hYI (by first | omega | assumption) (by first | omega | assumption) (by first | omega | assumption) (by first | omega | assumption) (by first | omega | assumption) (by first | omega | assumption) ((zWb_ar (by have := hYI.2.1 a (by omega); omega)).mp h5) ((zWb_ar (by have := hYI.2.1 b (by omega); omega)).mp h6) (by first | omega | assumption) (by first | omega | assumption) (by first | omega | assumption)
  have ek : kFilter (zG ar c) c a b t bl = 0 := by unfold kFilter; rw [if_neg (not_not_intro h1), if_neg (not_not_intro h2), if_neg (not_not_intro h3), if_neg (not_not_intro h4), if_neg (not_not_intro h5), if_neg (not_not_intro h6), if_neg h7, if_neg h8, if_neg h9]
  rw [ek]
  by_cases q1 : a = t
  · by_cases q2 : a = b
    · exact w_filter_S l hl9 D cI cW cP cJ ad ar c np pp pn pg o a b t bl sv hYI (by first | omega | assumption) (by first | omega | assumption) (by first | omega | assumption) (by first | omega | assumption) (by first | omega | assumption) (by first | omega | assumption) ((zWb_ar (by have := hYI.2.1 a (by omega); omega)).mp h5) ((zWb_ar (by have := hYI.2.1 b (by omega); omega)).mp h6) (by first | omega | assumption) (by first | omega | assumption) (by first | omega | assumption) (by first | omega | assumption) (by first | omega | assumption)
    · exact w_filter_A l hl9 D cI cW cP cJ ad ar c np pp pn pg o a b t bl sv hYI (by first | omega | assumption) (by first | omega | assumption) (by first | omega | assumption) (by first | omega | assumption) (by first | omega | assumption) (by first | omega | assumption) ((zWb_ar (by have := hYI.2.1 a (by omega); omega)).mp h5) ((zWb_ar (by have := hYI.2.1 b (by omega); omega)).mp h6) (by first | omega | assumption) (by first | omega | assumption) (by first | omega | assumption) (by first | omega | assumption) (by first | omega | assumption)
  · by_cases q2 : b = t
    · exact w_filter_B l hl9 D cI cW cP cJ ad ar c np pp pn pg o a b t bl sv hYI (by first | omega | assumption) (by first | omega | assumption) (by first | omega | assumption) (by first | omega | assumption) (by first | omega | assumption) (by first | omega | assumption) ((zWb_ar (by have := hYI.2.1 a (by omega); omega)).mp h5) ((zWb_ar (by have := hYI.2.1 b (by omega); omega)).mp h6) (by first | omega | assumption) (by first | omega | assumption) (by first | omega | assumption) (by first | omega | assumption) (by first | omega | assumption)
    · exact w_filter_D l hl9 D cI cW cP cJ ad ar c np pp pn pg o a b t bl sv hYI (by first | omega | assumption) (by first | omega | assumption) (by first | omega | assumption) (by first | omega | assumption) (by first | omega | assumption) (by first | omega | assumption) ((zWb_ar (by have := hYI.2.1 a (by omega); omega)).mp h5) ((zWb_ar (by have := hYI.2.1 b (by omega); omega)).mp h6) (by first | omega | assumption) (by first | omega | assumption) (by first | omega | assumption) (by first | omega | assumption) (by first | omega | assumption)

set_option maxHeartbeats 4000000 in
theorem W_multiply (l : Launch) (hl9 : l.stackTraces = false) (D : va_G) (cI cW cP cJ : ClassId) (ad : zk → Nat) (ar : zk → Int → Int) (c : Int → Int) (np : Int) (pp pn : Int → Int) (pg : Int → Option Nat) (o : Nat → Int64) (a : Int) (b : Int) (t : Int) (hYI : zYI ad ar c np pp pn pg) (ha_a : -2147483648 ≤ a ∧ a ≤ 2147483647) (ha_b : -2147483648 ≤ b ∧ b ≤ 2147483647) (ha_t : -2147483648 ≤ t ∧ t ≤ 2147483647) : zWC l yL_multiply wsL_multiply D [(cI, .int), (cW, .object RX3), (cP, .object RX2), (cJ, .long)] (zYK np) (zY cI cW cP cJ ad ar c np pp pn pg o) [.ref (ad (4, 0)), .int (zI a), .int (zI b), .int (zI t), .ref (ad (18, 0))] (S := Int × (Nat → Int64) × (Int → Int) × (zk → Int → Int)) (zWp (kMult (zG ar c) c a b t) (ndI (zLn (zG ar c) c a b) (c a + c b)) True c ar t (ndI (zLn (zG ar c) c a b) (c a + c b)) (dgI (zLn (zG ar c) c a b))) (fun u => some (.int (zI u.1))) (fun _ => zYK np) (fun u => zY cI cW cP cJ ad u.2.2.2 u.2.2.1 np pp pn pg u.2.1) := by
  by_cases h1 : 0 ≤ a ∧ a < 4
  rotate_left
  · have ek : kMult (zG ar c) c a b t = 1 := by unfold kMult; rw [if_pos h1]
    rw [ek]
    exact w_multiply_e1a l hl9 D cI cW cP cJ ad ar c np pp pn pg o a b t hYI (by first | omega | assumption) (by first | omega | assumption) (by first | omega | assumption) (by first | omega | assumption)
  by_cases h2 : 0 ≤ b ∧ b < 4
  rotate_left
  · have ek : kMult (zG ar c) c a b t = 1 := by unfold kMult; rw [if_neg (not_not_intro h1), if_pos h2]
    rw [ek]
    exact w_multiply_e1b l hl9 D cI cW cP cJ ad ar c np pp pn pg o a b t hYI (by first | omega | assumption) (by first | omega | assumption) (by first | omega | assumption) (by first | omega | assumption)
  by_cases h3 : 0 ≤ t ∧ t < 4
  rotate_left
  · have ek : kMult (zG ar c) c a b t = 1 := by unfold kMult; rw [if_neg (not_not_intro h1), if_neg (not_not_intro h2), if_pos h3]
    rw [ek]
    exact w_multiply_e1c l hl9 D cI cW cP cJ ad ar c np pp pn pg o a b t hYI (by first | omega | assumption) (by first | omega | assumption) (by first | omega | assumption) (by first | omega | assumption)
  by_cases h4 : zWb (zG ar c) c 0 9 a = true
  rotate_left
  · have ek : kMult (zG ar c) c a b t = 2 := by unfold kMult; rw [if_neg (not_not_intro h1), if_neg (not_not_intro h2), if_neg (not_not_intro h3), if_pos h4]
    rw [ek]
    exact w_multiply_e2a l hl9 D cI cW cP cJ ad ar c np pp pn pg o a b t hYI (by first | omega | assumption) (by first | omega | assumption) (by first | omega | assumption) (fun q => h4 ((zWb_ar (by have := hYI.2.1 a (by omega); omega)).mpr q))
  by_cases h5 : zWb (zG ar c) c 0 9 b = true
  rotate_left
  · have ek : kMult (zG ar c) c a b t = 2 := by unfold kMult; rw [if_neg (not_not_intro h1), if_neg (not_not_intro h2), if_neg (not_not_intro h3), if_neg (not_not_intro h4), if_pos h5]
    rw [ek]
    exact w_multiply_e2b l hl9 D cI cW cP cJ ad ar c np pp pn pg o a b t hYI (by first | omega | assumption) (by first | omega | assumption) (by first | omega | assumption) ((zWb_ar (by have := hYI.2.1 a (by omega); omega)).mp h4) (fun q => h5 ((zWb_ar (by have := hYI.2.1 b (by omega); omega)).mpr q))
  by_cases h6 : c a = 0
  · have ek : kMult (zG ar c) c a b t = 3 := by unfold kMult; rw [if_neg (not_not_intro h1), if_neg (not_not_intro h2), if_neg (not_not_intro h3), if_neg (not_not_intro h4), if_neg (not_not_intro h5), if_pos h6]
    rw [ek]
    exact w_multiply_e3a l hl9 D cI cW cP cJ ad ar c np pp pn pg o a b t hYI (by first | omega | assumption) (by first | omega | assumption) (by first | omega | assumption) ((zWb_ar (by have := hYI.2.1 a (by omega); omega)).mp h4) ((zWb_ar (by have := hYI.2.1 b (by omega); omega)).mp h5) (by first | omega | assumption)
  by_cases h7 : c b = 0
  · have ek : kMult (zG ar c) c a b t = 3 := by unfold kMult; rw [if_neg (not_not_intro h1), if_neg (not_not_intro h2), if_neg (not_not_intro h3), if_neg (not_not_intro h4), if_neg (not_not_intro h5), if_neg h6, if_pos h7]
    rw [ek]
    exact w_multiply_e3b l hl9 D cI cW cP cJ ad ar c np pp pn pg o a b t hYI (by first | omega | assumption) (by first | omega | assumption) (by first | omega | assumption) ((zWb_ar (by have := hYI.2.1 a (by omega); omega)).mp h4) ((zWb_ar (by have := hYI.2.1 b (by omega); omega)).mp h5) (by first | omega | assumption) (by first | omega | assumption)
  by_cases h8 : 64 < c a + c b
  · have ek : kMult (zG ar c) c a b t = 3 := by unfold kMult; rw [if_neg (not_not_intro h1), if_neg (not_not_intro h2), if_neg (not_not_intro h3), if_neg (not_not_intro h4), if_neg (not_not_intro h5), if_neg h6, if_neg h7, if_pos h8]
    rw [ek]
    exact w_multiply_e3c l hl9 D cI cW cP cJ ad ar c np pp pn pg o a b t hYI (by first | omega | assumption) (by first | omega | assumption) (by first | omega | assumption) ((zWb_ar (by have := hYI.2.1 a (by omega); omega)).mp h4) ((zWb_ar (by have := hYI.2.1 b (by omega); omega)).mp h5) (by first | omega | assumption) (by first | omega | assumption) (by first | omega | assumption)
  have ek : kMult (zG ar c) c a b t = 0 := by unfold kMult; rw [if_neg (not_not_intro h1), if_neg (not_not_intro h2), if_neg (not_not_intro h3), if_neg (not_not_intro h4), if_neg (not_not_intro h5), if_neg h6, if_neg h7, if_neg h8]
  rw [ek]
  by_cases q1 : a = t
  · by_cases q2 : a = b
    · exact w_multiply_S l hl9 D cI cW cP cJ ad ar c np pp pn pg o a b t hYI (by first | omega | assumption) (by first | omega | assumption) (by first | omega | assumption) ((zWb_ar (by have := hYI.2.1 a (by omega); omega)).mp h4) ((zWb_ar (by have := hYI.2.1 b (by omega); omega)).mp h5) (by first | omega | assumption) (by first | omega | assumption) (by first | omega | assumption) (by first | omega | assumption) (by first | omega | assumption)
    · exact w_multiply_A l hl9 D cI cW cP cJ ad ar c np pp pn pg o a b t hYI (by first | omega | assumption) (by first | omega | assumption) (by first | omega | assumption) ((zWb_ar (by have := hYI.2.1 a (by omega); omega)).mp h4) ((zWb_ar (by have := hYI.2.1 b (by omega); omega)).mp h5) (by first | omega | assumption) (by first | omega | assumption) (by first | omega | assumption) (by first | omega | assumption) (by first | omega | assumption)
  · by_cases q2 : b = t
    · exact w_multiply_B l hl9 D cI cW cP cJ ad ar c np pp pn pg o a b t hYI (by first | omega | assumption) (by first | omega | assumption) (by first | omega | assumption) ((zWb_ar (by have := hYI.2.1 a (by omega); omega)).mp h4) ((zWb_ar (by have := hYI.2.1 b (by omega); omega)).mp h5) (by first | omega | assumption) (by first | omega | assumption) (by first | omega | assumption) (by first | omega | assumption) (by first | omega | assumption)
    · exact w_multiply_D l hl9 D cI cW cP cJ ad ar c np pp pn pg o a b t hYI (by first | omega | assumption) (by first | omega | assumption) (by first | omega | assumption) ((zWb_ar (by have := hYI.2.1 a (by omega); omega)).mp h4) ((zWb_ar (by have := hYI.2.1 b (by omega); omega)).mp h5) (by first | omega | assumption) (by first | omega | assumption) (by first | omega | assumption) (by first | omega | assumption) (by first | omega | assumption)

set_option maxHeartbeats 4000000 in
set_option maxRecDepth 100000 in
theorem w_plan_e1a (l : Launch) (hl9 : l.stackTraces = false) (D : va_G) (cI cW cP cJ : ClassId) (ad : zk → Nat) (ar : zk → Int → Int) (c : Int → Int) (np : Int) (pp pn : Int → Int) (pg : Int → Option Nat) (o : Nat → Int64) (p : Int) (n : Int) (hYI : zYI ad ar c np pp pn pg) (ha_p : -2147483648 ≤ p ∧ p ≤ 2147483647) (ha_n : -2147483648 ≤ n ∧ n ≤ 2147483647) (h3 : p < 3) : zWC l yL_plan wsL_plan D [(cI, .int), (cW, .object RX3), (cP, .object RX2), (cJ, .long)] (zYK np) (zY cI cW cP cJ ad ar c np pp pn pg o) [.ref (ad (4, 0)), .int (zI p), .int (zI n), .ref (ad (18, 0))] (S := Int × (Nat → Int64) × (zk → Nat) × (zk → Int → Int) × Int × (Int → Int) × (Int → Int) × (Int → Option Nat)) (zPp 1 np p n ad ar pp pn pg) (fun u => some (.int (zI u.1))) (fun u => zYK u.2.2.2.2.1) (fun u => zY cI cW cP cJ u.2.2.1 u.2.2.2.1 c u.2.2.2.2.1 u.2.2.2.2.2.1 u.2.2.2.2.2.2.1 u.2.2.2.2.2.2.2 u.2.1) := by
  obtain ⟨hnp, hcr, hgr, hpl⟩ := hYI
  refine z_startW (cc := cL_plan) (maxL := 5) (ret := some .int) (hh := [(0, 10, 13, 15), (0, 10, 17, 17)]) (own := RL) (by decide) rfl rfl (Nat.le_of_ble_eq_true rfl) [(0, .ref (ad (4, 0))), (1, .int (zI p)), (2, .int (zI n)), (3, .ref (ad (18, 0)))] rfl ?_
  intro pp_ ee s mm below meth cc A0 H ls hX hA0 htab hx hb hr hml hts hown hlocks hK hF hI hKA hS hA hl
  have CF : CallFix pp_ mm cc cL_plan 5 s ([.ref (ad (4, 0)), .int (zI p), .int (zI n), .ref (ad (18, 0))] : List Value).toArray wsL_plan RL := ⟨hx, hb, hml, hown, hts⟩
  refine lv_aload_n hx hb dL_plan_0 rfl (lv_at hl 3 rfl) ?_
  refine z_iconst hx hb dL_plan_1 ?_
  refine lv_aload_n hx hb dL_plan_2 rfl (lv_at hl 0 rfl) ?_
  refine lv_iload_n hx hb dL_plan_3 rfl (lv_at hl 1 rfl) ?_
  refine lv_iload_n hx hb dL_plan_4 rfl (lv_at hl 2 rfl) ?_
  have hRc := zf_sub hF [(4, 0)] (List.forall_mem_cons.mpr ⟨zKf 4 rfl rfl, (fun _ h => absurd h List.not_mem_nil)⟩) (wc := [((ad (4, 0)), .inr (4, [.ref (ad (5, 0)), .ref (ad (6, 0)), .int (zI np), .ref (ad (7, 0)), .ref (ad (8, 0)), .ref (ad (9, 0)), .ref (ad (10, 0))]))]) rfl
  refine zw_catch (E := "java/lang/IllegalArgumentException") (name := "java/lang/IllegalArgumentException") (own := RL) (vx_runV (As := [.int (zI p), .int (zI n)]) (rest := [.int (zI 0), .ref (ad (18, 0))]) CF (x_X5_plan_1a l hl9 D cI cW cP (ad (4, 0)) (ad (5, 0)) (ad (6, 0)) np (ad (7, 0)) (ad (8, 0)) (ad (9, 0)) (ad (10, 0)) p n (by first | omega | assumption) (by first | omega | assumption) (by first | omega | assumption) A0 H.size) (cwV 2 hts gL_plan_X5_plan rfl rfl rfl (by decide +kernel) ⟨Nat.le_of_ble_eq_true rfl, Nat.le_of_ble_eq_true rfl⟩) (zw_preTV (va_recv hK hRc (ci := 4) (q0 := 0) rfl rfl) hX hA0 hA hS hRc (hK.sub (tys' := [(cI, .int), (cW, .object RX3), (cP, .object RX2)]) [0, 1, 2] rfl)) rfl rfl hl.1 rfl (lv_room (Nat.le_of_ble_eq_true rfl)) dL_plan_5 ⟨Nat.le_of_ble_eq_true rfl, Nat.le_of_ble_eq_true rfl⟩) hF hS hA hown [] ⟨0, 10, 13, 15⟩ [⟨0, 10, 17, 17⟩] (htab.trans rfl) (fun _ h => absurd h List.not_mem_nil) rfl (by decide) (hts (.classLink RL 15 "java/lang/IllegalArgumentException") (by decide +kernel)) (z_cast (hts (.initialized "java/lang/IllegalArgumentException") (by decide +kernel))) (fun q H locs hF hS => ?_)
  refine lv_astore (lv' := [(4, .ref q), (0, .ref (ad (4, 0))), (1, .int (zI p)), (2, .int (zI n)), (3, .ref (ad (18, 0)))]) hx hb dL_plan_13 hl (by decide) rfl (fun ls hl => ?_)
  have hl := lv_sub hl [1, 2, 3, 4, 0] rfl
  have hl : lv_has ls 5 [(0, .ref (ad (4, 0))), (1, .int (zI p)), (2, .int (zI n)), (3, .ref (ad (18, 0))), (4, .ref q)] := hl
  refine z_iconst hx hb dL_plan_15 ?_
  refine W.widen (k := 2) (n := 70) (Nat.le_of_ble_eq_true rfl) (Nat.le_of_ble_eq_true rfl) ?_
  exact zw_iret hx hb hr hlocks (1, o, ad, ar, np, pp, pn, pg) rfl (zPp_err (by decide)) hF hI hKA hS dL_plan_16

set_option maxHeartbeats 4000000 in
set_option maxRecDepth 100000 in
theorem w_plan_e1b (l : Launch) (hl9 : l.stackTraces = false) (D : va_G) (cI cW cP cJ : ClassId) (ad : zk → Nat) (ar : zk → Int → Int) (c : Int → Int) (np : Int) (pp pn : Int → Int) (pg : Int → Option Nat) (o : Nat → Int64) (p : Int) (n : Int) (hYI : zYI ad ar c np pp pn pg) (ha_p : -2147483648 ≤ p ∧ p ≤ 2147483647) (ha_n : -2147483648 ≤ n ∧ n ≤ 2147483647) (h3 : 9973 < p) : zWC l yL_plan wsL_plan D [(cI, .int), (cW, .object RX3), (cP, .object RX2), (cJ, .long)] (zYK np) (zY cI cW cP cJ ad ar c np pp pn pg o) [.ref (ad (4, 0)), .int (zI p), .int (zI n), .ref (ad (18, 0))] (S := Int × (Nat → Int64) × (zk → Nat) × (zk → Int → Int) × Int × (Int → Int) × (Int → Int) × (Int → Option Nat)) (zPp 1 np p n ad ar pp pn pg) (fun u => some (.int (zI u.1))) (fun u => zYK u.2.2.2.2.1) (fun u => zY cI cW cP cJ u.2.2.1 u.2.2.2.1 c u.2.2.2.2.1 u.2.2.2.2.2.1 u.2.2.2.2.2.2.1 u.2.2.2.2.2.2.2 u.2.1) := by
  obtain ⟨hnp, hcr, hgr, hpl⟩ := hYI
  refine z_startW (cc := cL_plan) (maxL := 5) (ret := some .int) (hh := [(0, 10, 13, 15), (0, 10, 17, 17)]) (own := RL) (by decide) rfl rfl (Nat.le_of_ble_eq_true rfl) [(0, .ref (ad (4, 0))), (1, .int (zI p)), (2, .int (zI n)), (3, .ref (ad (18, 0)))] rfl ?_
  intro pp_ ee s mm below meth cc A0 H ls hX hA0 htab hx hb hr hml hts hown hlocks hK hF hI hKA hS hA hl
  have CF : CallFix pp_ mm cc cL_plan 5 s ([.ref (ad (4, 0)), .int (zI p), .int (zI n), .ref (ad (18, 0))] : List Value).toArray wsL_plan RL := ⟨hx, hb, hml, hown, hts⟩
  refine lv_aload_n hx hb dL_plan_0 rfl (lv_at hl 3 rfl) ?_
  refine z_iconst hx hb dL_plan_1 ?_
  refine lv_aload_n hx hb dL_plan_2 rfl (lv_at hl 0 rfl) ?_
  refine lv_iload_n hx hb dL_plan_3 rfl (lv_at hl 1 rfl) ?_
  refine lv_iload_n hx hb dL_plan_4 rfl (lv_at hl 2 rfl) ?_
  have hRc := zf_sub hF [(4, 0)] (List.forall_mem_cons.mpr ⟨zKf 4 rfl rfl, (fun _ h => absurd h List.not_mem_nil)⟩) (wc := [((ad (4, 0)), .inr (4, [.ref (ad (5, 0)), .ref (ad (6, 0)), .int (zI np), .ref (ad (7, 0)), .ref (ad (8, 0)), .ref (ad (9, 0)), .ref (ad (10, 0))]))]) rfl
  refine zw_catch (E := "java/lang/IllegalArgumentException") (name := "java/lang/IllegalArgumentException") (own := RL) (vx_runV (As := [.int (zI p), .int (zI n)]) (rest := [.int (zI 0), .ref (ad (18, 0))]) CF (x_X5_plan_1b l hl9 D cI cW cP (ad (4, 0)) (ad (5, 0)) (ad (6, 0)) np (ad (7, 0)) (ad (8, 0)) (ad (9, 0)) (ad (10, 0)) p n (by first | omega | assumption) (by first | omega | assumption) (by first | omega | assumption) A0 H.size) (cwV 2 hts gL_plan_X5_plan rfl rfl rfl (by decide +kernel) ⟨Nat.le_of_ble_eq_true rfl, Nat.le_of_ble_eq_true rfl⟩) (zw_preTV (va_recv hK hRc (ci := 4) (q0 := 0) rfl rfl) hX hA0 hA hS hRc (hK.sub (tys' := [(cI, .int), (cW, .object RX3), (cP, .object RX2)]) [0, 1, 2] rfl)) rfl rfl hl.1 rfl (lv_room (Nat.le_of_ble_eq_true rfl)) dL_plan_5 ⟨Nat.le_of_ble_eq_true rfl, Nat.le_of_ble_eq_true rfl⟩) hF hS hA hown [] ⟨0, 10, 13, 15⟩ [⟨0, 10, 17, 17⟩] (htab.trans rfl) (fun _ h => absurd h List.not_mem_nil) rfl (by decide) (hts (.classLink RL 15 "java/lang/IllegalArgumentException") (by decide +kernel)) (z_cast (hts (.initialized "java/lang/IllegalArgumentException") (by decide +kernel))) (fun q H locs hF hS => ?_)
  refine lv_astore (lv' := [(4, .ref q), (0, .ref (ad (4, 0))), (1, .int (zI p)), (2, .int (zI n)), (3, .ref (ad (18, 0)))]) hx hb dL_plan_13 hl (by decide) rfl (fun ls hl => ?_)
  have hl := lv_sub hl [1, 2, 3, 4, 0] rfl
  have hl : lv_has ls 5 [(0, .ref (ad (4, 0))), (1, .int (zI p)), (2, .int (zI n)), (3, .ref (ad (18, 0))), (4, .ref q)] := hl
  refine z_iconst hx hb dL_plan_15 ?_
  refine W.widen (k := 2) (n := 70) (Nat.le_of_ble_eq_true rfl) (Nat.le_of_ble_eq_true rfl) ?_
  exact zw_iret hx hb hr hlocks (1, o, ad, ar, np, pp, pn, pg) rfl (zPp_err (by decide)) hF hI hKA hS dL_plan_16

set_option maxHeartbeats 4000000 in
set_option maxRecDepth 100000 in
theorem w_plan_e1c (l : Launch) (hl9 : l.stackTraces = false) (D : va_G) (cI cW cP cJ : ClassId) (ad : zk → Nat) (ar : zk → Int → Int) (c : Int → Int) (np : Int) (pp pn : Int → Int) (pg : Int → Option Nat) (o : Nat → Int64) (p : Int) (n : Int) (hYI : zYI ad ar c np pp pn pg) (ha_n : -2147483648 ≤ n ∧ n ≤ 2147483647) (h3 : 3 ≤ p ∧ p ≤ 9973) (hpr : ¬ (1 < p ∧ lfac p = p)) : zWC l yL_plan wsL_plan D [(cI, .int), (cW, .object RX3), (cP, .object RX2), (cJ, .long)] (zYK np) (zY cI cW cP cJ ad ar c np pp pn pg o) [.ref (ad (4, 0)), .int (zI p), .int (zI n), .ref (ad (18, 0))] (S := Int × (Nat → Int64) × (zk → Nat) × (zk → Int → Int) × Int × (Int → Int) × (Int → Int) × (Int → Option Nat)) (zPp 1 np p n ad ar pp pn pg) (fun u => some (.int (zI u.1))) (fun u => zYK u.2.2.2.2.1) (fun u => zY cI cW cP cJ u.2.2.1 u.2.2.2.1 c u.2.2.2.2.1 u.2.2.2.2.2.1 u.2.2.2.2.2.2.1 u.2.2.2.2.2.2.2 u.2.1) := by
  obtain ⟨hnp, hcr, hgr, hpl⟩ := hYI
  refine z_startW (cc := cL_plan) (maxL := 5) (ret := some .int) (hh := [(0, 10, 13, 15), (0, 10, 17, 17)]) (own := RL) (by decide) rfl rfl (Nat.le_of_ble_eq_true rfl) [(0, .ref (ad (4, 0))), (1, .int (zI p)), (2, .int (zI n)), (3, .ref (ad (18, 0)))] rfl ?_
  intro pp_ ee s mm below meth cc A0 H ls hX hA0 htab hx hb hr hml hts hown hlocks hK hF hI hKA hS hA hl
  have CF : CallFix pp_ mm cc cL_plan 5 s ([.ref (ad (4, 0)), .int (zI p), .int (zI n), .ref (ad (18, 0))] : List Value).toArray wsL_plan RL := ⟨hx, hb, hml, hown, hts⟩
  refine lv_aload_n hx hb dL_plan_0 rfl (lv_at hl 3 rfl) ?_
  refine z_iconst hx hb dL_plan_1 ?_
  refine lv_aload_n hx hb dL_plan_2 rfl (lv_at hl 0 rfl) ?_
  refine lv_iload_n hx hb dL_plan_3 rfl (lv_at hl 1 rfl) ?_
  refine lv_iload_n hx hb dL_plan_4 rfl (lv_at hl 2 rfl) ?_
  have hRc := zf_sub hF [(4, 0)] (List.forall_mem_cons.mpr ⟨zKf 4 rfl rfl, (fun _ h => absurd h List.not_mem_nil)⟩) (wc := [((ad (4, 0)), .inr (4, [.ref (ad (5, 0)), .ref (ad (6, 0)), .int (zI np), .ref (ad (7, 0)), .ref (ad (8, 0)), .ref (ad (9, 0)), .ref (ad (10, 0))]))]) rfl
  refine zw_catch (E := "java/lang/IllegalArgumentException") (name := "java/lang/IllegalArgumentException") (own := RL) (vx_runV (As := [.int (zI p), .int (zI n)]) (rest := [.int (zI 0), .ref (ad (18, 0))]) CF (x_X5_plan_1c l hl9 D cI cW cP (ad (4, 0)) (ad (5, 0)) (ad (6, 0)) np (ad (7, 0)) (ad (8, 0)) (ad (9, 0)) (ad (10, 0)) p n (by first | omega | assumption) (by first | omega | assumption) (by first | omega | assumption) A0 H.size) (cwV 2 hts gL_plan_X5_plan rfl rfl rfl (by decide +kernel) ⟨Nat.le_of_ble_eq_true rfl, Nat.le_of_ble_eq_true rfl⟩) (zw_preTV (va_recv hK hRc (ci := 4) (q0 := 0) rfl rfl) hX hA0 hA hS hRc (hK.sub (tys' := [(cI, .int), (cW, .object RX3), (cP, .object RX2)]) [0, 1, 2] rfl)) rfl rfl hl.1 rfl (lv_room (Nat.le_of_ble_eq_true rfl)) dL_plan_5 ⟨Nat.le_of_ble_eq_true rfl, Nat.le_of_ble_eq_true rfl⟩) hF hS hA hown [] ⟨0, 10, 13, 15⟩ [⟨0, 10, 17, 17⟩] (htab.trans rfl) (fun _ h => absurd h List.not_mem_nil) rfl (by decide) (hts (.classLink RL 15 "java/lang/IllegalArgumentException") (by decide +kernel)) (z_cast (hts (.initialized "java/lang/IllegalArgumentException") (by decide +kernel))) (fun q H locs hF hS => ?_)
  refine lv_astore (lv' := [(4, .ref q), (0, .ref (ad (4, 0))), (1, .int (zI p)), (2, .int (zI n)), (3, .ref (ad (18, 0)))]) hx hb dL_plan_13 hl (by decide) rfl (fun ls hl => ?_)
  have hl := lv_sub hl [1, 2, 3, 4, 0] rfl
  have hl : lv_has ls 5 [(0, .ref (ad (4, 0))), (1, .int (zI p)), (2, .int (zI n)), (3, .ref (ad (18, 0))), (4, .ref q)] := hl
  refine z_iconst hx hb dL_plan_15 ?_
  refine W.widen (k := 2) (n := 70) (Nat.le_of_ble_eq_true rfl) (Nat.le_of_ble_eq_true rfl) ?_
  exact zw_iret hx hb hr hlocks (1, o, ad, ar, np, pp, pn, pg) rfl (zPp_err (by decide)) hF hI hKA hS dL_plan_16

set_option maxHeartbeats 4000000 in
set_option maxRecDepth 100000 in
theorem w_plan_e1d (l : Launch) (hl9 : l.stackTraces = false) (D : va_G) (cI cW cP cJ : ClassId) (ad : zk → Nat) (ar : zk → Int → Int) (c : Int → Int) (np : Int) (pp pn : Int → Int) (pg : Int → Option Nat) (o : Nat → Int64) (p : Int) (n : Int) (hYI : zYI ad ar c np pp pn pg) (ha_n : -2147483648 ≤ n ∧ n ≤ 2147483647) (h3 : 3 ≤ p ∧ p ≤ 9973) (hpr : 1 < p ∧ lfac p = p) (hn : n < 1) : zWC l yL_plan wsL_plan D [(cI, .int), (cW, .object RX3), (cP, .object RX2), (cJ, .long)] (zYK np) (zY cI cW cP cJ ad ar c np pp pn pg o) [.ref (ad (4, 0)), .int (zI p), .int (zI n), .ref (ad (18, 0))] (S := Int × (Nat → Int64) × (zk → Nat) × (zk → Int → Int) × Int × (Int → Int) × (Int → Int) × (Int → Option Nat)) (zPp 1 np p n ad ar pp pn pg) (fun u => some (.int (zI u.1))) (fun u => zYK u.2.2.2.2.1) (fun u => zY cI cW cP cJ u.2.2.1 u.2.2.2.1 c u.2.2.2.2.1 u.2.2.2.2.2.1 u.2.2.2.2.2.2.1 u.2.2.2.2.2.2.2 u.2.1) := by
  obtain ⟨hnp, hcr, hgr, hpl⟩ := hYI
  refine z_startW (cc := cL_plan) (maxL := 5) (ret := some .int) (hh := [(0, 10, 13, 15), (0, 10, 17, 17)]) (own := RL) (by decide) rfl rfl (Nat.le_of_ble_eq_true rfl) [(0, .ref (ad (4, 0))), (1, .int (zI p)), (2, .int (zI n)), (3, .ref (ad (18, 0)))] rfl ?_
  intro pp_ ee s mm below meth cc A0 H ls hX hA0 htab hx hb hr hml hts hown hlocks hK hF hI hKA hS hA hl
  have CF : CallFix pp_ mm cc cL_plan 5 s ([.ref (ad (4, 0)), .int (zI p), .int (zI n), .ref (ad (18, 0))] : List Value).toArray wsL_plan RL := ⟨hx, hb, hml, hown, hts⟩
  refine lv_aload_n hx hb dL_plan_0 rfl (lv_at hl 3 rfl) ?_
  refine z_iconst hx hb dL_plan_1 ?_
  refine lv_aload_n hx hb dL_plan_2 rfl (lv_at hl 0 rfl) ?_
  refine lv_iload_n hx hb dL_plan_3 rfl (lv_at hl 1 rfl) ?_
  refine lv_iload_n hx hb dL_plan_4 rfl (lv_at hl 2 rfl) ?_
  have hRc := zf_sub hF [(4, 0)] (List.forall_mem_cons.mpr ⟨zKf 4 rfl rfl, (fun _ h => absurd h List.not_mem_nil)⟩) (wc := [((ad (4, 0)), .inr (4, [.ref (ad (5, 0)), .ref (ad (6, 0)), .int (zI np), .ref (ad (7, 0)), .ref (ad (8, 0)), .ref (ad (9, 0)), .ref (ad (10, 0))]))]) rfl
  refine zw_catch (E := "java/lang/IllegalArgumentException") (name := "java/lang/IllegalArgumentException") (own := RL) (vx_runV (As := [.int (zI p), .int (zI n)]) (rest := [.int (zI 0), .ref (ad (18, 0))]) CF (x_X5_plan_1d l hl9 D cI cW cP (ad (4, 0)) (ad (5, 0)) (ad (6, 0)) np (ad (7, 0)) (ad (8, 0)) (ad (9, 0)) (ad (10, 0)) p n (by first | omega | assumption) (by first | omega | assumption) (by first | omega | assumption) (by first | omega | assumption) A0 H.size) (cwV 2 hts gL_plan_X5_plan rfl rfl rfl (by decide +kernel) ⟨Nat.le_of_ble_eq_true rfl, Nat.le_of_ble_eq_true rfl⟩) (zw_preTV (va_recv hK hRc (ci := 4) (q0 := 0) rfl rfl) hX hA0 hA hS hRc (hK.sub (tys' := [(cI, .int), (cW, .object RX3), (cP, .object RX2)]) [0, 1, 2] rfl)) rfl rfl hl.1 rfl (lv_room (Nat.le_of_ble_eq_true rfl)) dL_plan_5 ⟨Nat.le_of_ble_eq_true rfl, Nat.le_of_ble_eq_true rfl⟩) hF hS hA hown [] ⟨0, 10, 13, 15⟩ [⟨0, 10, 17, 17⟩] (htab.trans rfl) (fun _ h => absurd h List.not_mem_nil) rfl (by decide) (hts (.classLink RL 15 "java/lang/IllegalArgumentException") (by decide +kernel)) (z_cast (hts (.initialized "java/lang/IllegalArgumentException") (by decide +kernel))) (fun q H locs hF hS => ?_)
  refine lv_astore (lv' := [(4, .ref q), (0, .ref (ad (4, 0))), (1, .int (zI p)), (2, .int (zI n)), (3, .ref (ad (18, 0)))]) hx hb dL_plan_13 hl (by decide) rfl (fun ls hl => ?_)
  have hl := lv_sub hl [1, 2, 3, 4, 0] rfl
  have hl : lv_has ls 5 [(0, .ref (ad (4, 0))), (1, .int (zI p)), (2, .int (zI n)), (3, .ref (ad (18, 0))), (4, .ref q)] := hl
  refine z_iconst hx hb dL_plan_15 ?_
  refine W.widen (k := 2) (n := 70) (Nat.le_of_ble_eq_true rfl) (Nat.le_of_ble_eq_true rfl) ?_
  exact zw_iret hx hb hr hlocks (1, o, ad, ar, np, pp, pn, pg) rfl (zPp_err (by decide)) hF hI hKA hS dL_plan_16

set_option maxHeartbeats 4000000 in
set_option maxRecDepth 100000 in
theorem w_plan_e1e (l : Launch) (hl9 : l.stackTraces = false) (D : va_G) (cI cW cP cJ : ClassId) (ad : zk → Nat) (ar : zk → Int → Int) (c : Int → Int) (np : Int) (pp pn : Int → Int) (pg : Int → Option Nat) (o : Nat → Int64) (p : Int) (n : Int) (hYI : zYI ad ar c np pp pn pg) (ha_n : -2147483648 ≤ n ∧ n ≤ 2147483647) (h3 : 3 ≤ p ∧ p ≤ 9973) (hpr : 1 < p ∧ lfac p = p) (hn : 64 < n) : zWC l yL_plan wsL_plan D [(cI, .int), (cW, .object RX3), (cP, .object RX2), (cJ, .long)] (zYK np) (zY cI cW cP cJ ad ar c np pp pn pg o) [.ref (ad (4, 0)), .int (zI p), .int (zI n), .ref (ad (18, 0))] (S := Int × (Nat → Int64) × (zk → Nat) × (zk → Int → Int) × Int × (Int → Int) × (Int → Int) × (Int → Option Nat)) (zPp 1 np p n ad ar pp pn pg) (fun u => some (.int (zI u.1))) (fun u => zYK u.2.2.2.2.1) (fun u => zY cI cW cP cJ u.2.2.1 u.2.2.2.1 c u.2.2.2.2.1 u.2.2.2.2.2.1 u.2.2.2.2.2.2.1 u.2.2.2.2.2.2.2 u.2.1) := by
  obtain ⟨hnp, hcr, hgr, hpl⟩ := hYI
  refine z_startW (cc := cL_plan) (maxL := 5) (ret := some .int) (hh := [(0, 10, 13, 15), (0, 10, 17, 17)]) (own := RL) (by decide) rfl rfl (Nat.le_of_ble_eq_true rfl) [(0, .ref (ad (4, 0))), (1, .int (zI p)), (2, .int (zI n)), (3, .ref (ad (18, 0)))] rfl ?_
  intro pp_ ee s mm below meth cc A0 H ls hX hA0 htab hx hb hr hml hts hown hlocks hK hF hI hKA hS hA hl
  have CF : CallFix pp_ mm cc cL_plan 5 s ([.ref (ad (4, 0)), .int (zI p), .int (zI n), .ref (ad (18, 0))] : List Value).toArray wsL_plan RL := ⟨hx, hb, hml, hown, hts⟩
  refine lv_aload_n hx hb dL_plan_0 rfl (lv_at hl 3 rfl) ?_
  refine z_iconst hx hb dL_plan_1 ?_
  refine lv_aload_n hx hb dL_plan_2 rfl (lv_at hl 0 rfl) ?_
  refine lv_iload_n hx hb dL_plan_3 rfl (lv_at hl 1 rfl) ?_
  refine lv_iload_n hx hb dL_plan_4 rfl (lv_at hl 2 rfl) ?_
  have hRc := zf_sub hF [(4, 0)] (List.forall_mem_cons.mpr ⟨zKf 4 rfl rfl, (fun _ h => absurd h List.not_mem_nil)⟩) (wc := [((ad (4, 0)), .inr (4, [.ref (ad (5, 0)), .ref (ad (6, 0)), .int (zI np), .ref (ad (7, 0)), .ref (ad (8, 0)), .ref (ad (9, 0)), .ref (ad (10, 0))]))]) rfl
  refine zw_catch (E := "java/lang/IllegalArgumentException") (name := "java/lang/IllegalArgumentException") (own := RL) (vx_runV (As := [.int (zI p), .int (zI n)]) (rest := [.int (zI 0), .ref (ad (18, 0))]) CF (x_X5_plan_1e l hl9 D cI cW cP (ad (4, 0)) (ad (5, 0)) (ad (6, 0)) np (ad (7, 0)) (ad (8, 0)) (ad (9, 0)) (ad (10, 0)) p n (by first | omega | assumption) (by first | omega | assumption) (by first | omega | assumption) (by first | omega | assumption) A0 H.size) (cwV 2 hts gL_plan_X5_plan rfl rfl rfl (by decide +kernel) ⟨Nat.le_of_ble_eq_true rfl, Nat.le_of_ble_eq_true rfl⟩) (zw_preTV (va_recv hK hRc (ci := 4) (q0 := 0) rfl rfl) hX hA0 hA hS hRc (hK.sub (tys' := [(cI, .int), (cW, .object RX3), (cP, .object RX2)]) [0, 1, 2] rfl)) rfl rfl hl.1 rfl (lv_room (Nat.le_of_ble_eq_true rfl)) dL_plan_5 ⟨Nat.le_of_ble_eq_true rfl, Nat.le_of_ble_eq_true rfl⟩) hF hS hA hown [] ⟨0, 10, 13, 15⟩ [⟨0, 10, 17, 17⟩] (htab.trans rfl) (fun _ h => absurd h List.not_mem_nil) rfl (by decide) (hts (.classLink RL 15 "java/lang/IllegalArgumentException") (by decide +kernel)) (z_cast (hts (.initialized "java/lang/IllegalArgumentException") (by decide +kernel))) (fun q H locs hF hS => ?_)
  refine lv_astore (lv' := [(4, .ref q), (0, .ref (ad (4, 0))), (1, .int (zI p)), (2, .int (zI n)), (3, .ref (ad (18, 0)))]) hx hb dL_plan_13 hl (by decide) rfl (fun ls hl => ?_)
  have hl := lv_sub hl [1, 2, 3, 4, 0] rfl
  have hl : lv_has ls 5 [(0, .ref (ad (4, 0))), (1, .int (zI p)), (2, .int (zI n)), (3, .ref (ad (18, 0))), (4, .ref q)] := hl
  refine z_iconst hx hb dL_plan_15 ?_
  refine W.widen (k := 2) (n := 70) (Nat.le_of_ble_eq_true rfl) (Nat.le_of_ble_eq_true rfl) ?_
  exact zw_iret hx hb hr hlocks (1, o, ad, ar, np, pp, pn, pg) rfl (zPp_err (by decide)) hF hI hKA hS dL_plan_16

set_option maxHeartbeats 4000000 in
set_option maxRecDepth 100000 in
theorem w_plan_e1f (l : Launch) (hl9 : l.stackTraces = false) (D : va_G) (cI cW cP cJ : ClassId) (ad : zk → Nat) (ar : zk → Int → Int) (c : Int → Int) (np : Int) (pp pn : Int → Int) (pg : Int → Option Nat) (o : Nat → Int64) (p : Int) (n : Int) (hYI : zYI ad ar c np pp pn pg) (h3 : 3 ≤ p ∧ p ≤ 9973) (hpr : 1 < p ∧ lfac p = p) (hn : 1 ≤ n ∧ n ≤ 64) (hd_ : (p - 1) % n ≠ 0) : zWC l yL_plan wsL_plan D [(cI, .int), (cW, .object RX3), (cP, .object RX2), (cJ, .long)] (zYK np) (zY cI cW cP cJ ad ar c np pp pn pg o) [.ref (ad (4, 0)), .int (zI p), .int (zI n), .ref (ad (18, 0))] (S := Int × (Nat → Int64) × (zk → Nat) × (zk → Int → Int) × Int × (Int → Int) × (Int → Int) × (Int → Option Nat)) (zPp 1 np p n ad ar pp pn pg) (fun u => some (.int (zI u.1))) (fun u => zYK u.2.2.2.2.1) (fun u => zY cI cW cP cJ u.2.2.1 u.2.2.2.1 c u.2.2.2.2.1 u.2.2.2.2.2.1 u.2.2.2.2.2.2.1 u.2.2.2.2.2.2.2 u.2.1) := by
  obtain ⟨hnp, hcr, hgr, hpl⟩ := hYI
  refine z_startW (cc := cL_plan) (maxL := 5) (ret := some .int) (hh := [(0, 10, 13, 15), (0, 10, 17, 17)]) (own := RL) (by decide) rfl rfl (Nat.le_of_ble_eq_true rfl) [(0, .ref (ad (4, 0))), (1, .int (zI p)), (2, .int (zI n)), (3, .ref (ad (18, 0)))] rfl ?_
  intro pp_ ee s mm below meth cc A0 H ls hX hA0 htab hx hb hr hml hts hown hlocks hK hF hI hKA hS hA hl
  have CF : CallFix pp_ mm cc cL_plan 5 s ([.ref (ad (4, 0)), .int (zI p), .int (zI n), .ref (ad (18, 0))] : List Value).toArray wsL_plan RL := ⟨hx, hb, hml, hown, hts⟩
  refine lv_aload_n hx hb dL_plan_0 rfl (lv_at hl 3 rfl) ?_
  refine z_iconst hx hb dL_plan_1 ?_
  refine lv_aload_n hx hb dL_plan_2 rfl (lv_at hl 0 rfl) ?_
  refine lv_iload_n hx hb dL_plan_3 rfl (lv_at hl 1 rfl) ?_
  refine lv_iload_n hx hb dL_plan_4 rfl (lv_at hl 2 rfl) ?_
  have hRc := zf_sub hF [(4, 0)] (List.forall_mem_cons.mpr ⟨zKf 4 rfl rfl, (fun _ h => absurd h List.not_mem_nil)⟩) (wc := [((ad (4, 0)), .inr (4, [.ref (ad (5, 0)), .ref (ad (6, 0)), .int (zI np), .ref (ad (7, 0)), .ref (ad (8, 0)), .ref (ad (9, 0)), .ref (ad (10, 0))]))]) rfl
  refine zw_catch (E := "java/lang/IllegalArgumentException") (name := "java/lang/IllegalArgumentException") (own := RL) (vx_runV (As := [.int (zI p), .int (zI n)]) (rest := [.int (zI 0), .ref (ad (18, 0))]) CF (x_X5_plan_1f l hl9 D cI cW cP (ad (4, 0)) (ad (5, 0)) (ad (6, 0)) np (ad (7, 0)) (ad (8, 0)) (ad (9, 0)) (ad (10, 0)) p n (by first | omega | assumption) (by first | omega | assumption) (by first | omega | assumption) (by first | omega | assumption) A0 H.size) (cwV 2 hts gL_plan_X5_plan rfl rfl rfl (by decide +kernel) ⟨Nat.le_of_ble_eq_true rfl, Nat.le_of_ble_eq_true rfl⟩) (zw_preTV (va_recv hK hRc (ci := 4) (q0 := 0) rfl rfl) hX hA0 hA hS hRc (hK.sub (tys' := [(cI, .int), (cW, .object RX3), (cP, .object RX2)]) [0, 1, 2] rfl)) rfl rfl hl.1 rfl (lv_room (Nat.le_of_ble_eq_true rfl)) dL_plan_5 ⟨Nat.le_of_ble_eq_true rfl, Nat.le_of_ble_eq_true rfl⟩) hF hS hA hown [] ⟨0, 10, 13, 15⟩ [⟨0, 10, 17, 17⟩] (htab.trans rfl) (fun _ h => absurd h List.not_mem_nil) rfl (by decide) (hts (.classLink RL 15 "java/lang/IllegalArgumentException") (by decide +kernel)) (z_cast (hts (.initialized "java/lang/IllegalArgumentException") (by decide +kernel))) (fun q H locs hF hS => ?_)
  refine lv_astore (lv' := [(4, .ref q), (0, .ref (ad (4, 0))), (1, .int (zI p)), (2, .int (zI n)), (3, .ref (ad (18, 0)))]) hx hb dL_plan_13 hl (by decide) rfl (fun ls hl => ?_)
  have hl := lv_sub hl [1, 2, 3, 4, 0] rfl
  have hl : lv_has ls 5 [(0, .ref (ad (4, 0))), (1, .int (zI p)), (2, .int (zI n)), (3, .ref (ad (18, 0))), (4, .ref q)] := hl
  refine z_iconst hx hb dL_plan_15 ?_
  refine W.widen (k := 2) (n := 70) (Nat.le_of_ble_eq_true rfl) (Nat.le_of_ble_eq_true rfl) ?_
  exact zw_iret hx hb hr hlocks (1, o, ad, ar, np, pp, pn, pg) rfl (zPp_err (by decide)) hF hI hKA hS dL_plan_16

set_option maxHeartbeats 4000000 in
set_option maxRecDepth 100000 in
theorem w_plan_e2 (l : Launch) (hl9 : l.stackTraces = false) (D : va_G) (cI cW cP cJ : ClassId) (ad : zk → Nat) (ar : zk → Int → Int) (c : Int → Int) (np : Int) (pp pn : Int → Int) (pg : Int → Option Nat) (o : Nat → Int64) (p : Int) (n : Int) (hYI : zYI ad ar c np pp pn pg) (h3 : 3 ≤ p ∧ p ≤ 9973) (hpr : 1 < p ∧ lfac p = p) (hn : 1 ≤ n ∧ n ≤ 64) (hd_ : (p - 1) % n = 0) (h8 : np = 8) : zWC l yL_plan wsL_plan D [(cI, .int), (cW, .object RX3), (cP, .object RX2), (cJ, .long)] (zYK np) (zY cI cW cP cJ ad ar c np pp pn pg o) [.ref (ad (4, 0)), .int (zI p), .int (zI n), .ref (ad (18, 0))] (S := Int × (Nat → Int64) × (zk → Nat) × (zk → Int → Int) × Int × (Int → Int) × (Int → Int) × (Int → Option Nat)) (zPp 2 np p n ad ar pp pn pg) (fun u => some (.int (zI u.1))) (fun u => zYK u.2.2.2.2.1) (fun u => zY cI cW cP cJ u.2.2.1 u.2.2.2.1 c u.2.2.2.2.1 u.2.2.2.2.2.1 u.2.2.2.2.2.2.1 u.2.2.2.2.2.2.2 u.2.1) := by
  obtain ⟨hnp, hcr, hgr, hpl⟩ := hYI
  refine z_startW (cc := cL_plan) (maxL := 5) (ret := some .int) (hh := [(0, 10, 13, 15), (0, 10, 17, 17)]) (own := RL) (by decide) rfl rfl (Nat.le_of_ble_eq_true rfl) [(0, .ref (ad (4, 0))), (1, .int (zI p)), (2, .int (zI n)), (3, .ref (ad (18, 0)))] rfl ?_
  intro pp_ ee s mm below meth cc A0 H ls hX hA0 htab hx hb hr hml hts hown hlocks hK hF hI hKA hS hA hl
  have CF : CallFix pp_ mm cc cL_plan 5 s ([.ref (ad (4, 0)), .int (zI p), .int (zI n), .ref (ad (18, 0))] : List Value).toArray wsL_plan RL := ⟨hx, hb, hml, hown, hts⟩
  refine lv_aload_n hx hb dL_plan_0 rfl (lv_at hl 3 rfl) ?_
  refine z_iconst hx hb dL_plan_1 ?_
  refine lv_aload_n hx hb dL_plan_2 rfl (lv_at hl 0 rfl) ?_
  refine lv_iload_n hx hb dL_plan_3 rfl (lv_at hl 1 rfl) ?_
  refine lv_iload_n hx hb dL_plan_4 rfl (lv_at hl 2 rfl) ?_
  have hRc := zf_sub hF [(4, 0)] (List.forall_mem_cons.mpr ⟨zKf 4 rfl rfl, (fun _ h => absurd h List.not_mem_nil)⟩) (wc := [((ad (4, 0)), .inr (4, [.ref (ad (5, 0)), .ref (ad (6, 0)), .int (zI np), .ref (ad (7, 0)), .ref (ad (8, 0)), .ref (ad (9, 0)), .ref (ad (10, 0))]))]) rfl
  refine zw_catch (E := "java/lang/IllegalStateException") (name := "java/lang/IllegalStateException") (own := RL) (vx_runV (As := [.int (zI p), .int (zI n)]) (rest := [.int (zI 0), .ref (ad (18, 0))]) CF (x_X5_plan_2 l hl9 D cI cW cP (ad (4, 0)) (ad (5, 0)) (ad (6, 0)) np (ad (7, 0)) (ad (8, 0)) (ad (9, 0)) (ad (10, 0)) p n (by first | omega | assumption) (by first | omega | assumption) (by first | omega | assumption) (by first | omega | assumption) (by first | omega | assumption) A0 H.size) (cwV 2 hts gL_plan_X5_plan rfl rfl rfl (by decide +kernel) ⟨Nat.le_of_ble_eq_true rfl, Nat.le_of_ble_eq_true rfl⟩) (zw_preTV (va_recv hK hRc (ci := 4) (q0 := 0) rfl rfl) hX hA0 hA hS hRc (hK.sub (tys' := [(cI, .int), (cW, .object RX3), (cP, .object RX2)]) [0, 1, 2] rfl)) rfl rfl hl.1 rfl (lv_room (Nat.le_of_ble_eq_true rfl)) dL_plan_5 ⟨Nat.le_of_ble_eq_true rfl, Nat.le_of_ble_eq_true rfl⟩) hF hS hA hown [⟨0, 10, 13, 15⟩] ⟨0, 10, 17, 17⟩ [] (htab.trans rfl) (List.forall_mem_cons.mpr ⟨Or.inr ⟨by decide, _, hts (.classLink RL 15 "java/lang/IllegalArgumentException") (by decide +kernel), hX.2.2.2.2.2.1⟩, (fun _ h => absurd h List.not_mem_nil)⟩) rfl (by decide) (hts (.classLink RL 17 "java/lang/IllegalStateException") (by decide +kernel)) (z_cast (hts (.initialized "java/lang/IllegalStateException") (by decide +kernel))) (fun q H locs hF hS => ?_)
  refine lv_astore (lv' := [(4, .ref q), (0, .ref (ad (4, 0))), (1, .int (zI p)), (2, .int (zI n)), (3, .ref (ad (18, 0)))]) hx hb dL_plan_17 hl (by decide) rfl (fun ls hl => ?_)
  have hl := lv_sub hl [1, 2, 3, 4, 0] rfl
  have hl : lv_has ls 5 [(0, .ref (ad (4, 0))), (1, .int (zI p)), (2, .int (zI n)), (3, .ref (ad (18, 0))), (4, .ref q)] := hl
  refine z_iconst hx hb dL_plan_19 ?_
  refine W.widen (k := 2) (n := 70) (Nat.le_of_ble_eq_true rfl) (Nat.le_of_ble_eq_true rfl) ?_
  exact zw_iret hx hb hr hlocks (2, o, ad, ar, np, pp, pn, pg) rfl (zPp_err (by decide)) hF hI hKA hS dL_plan_20

set_option maxHeartbeats 4000000 in
set_option maxRecDepth 100000 in
theorem w_plan_ok (l : Launch) (hl9 : l.stackTraces = false) (D : va_G) (cI cW cP cJ : ClassId) (ad : zk → Nat) (ar : zk → Int → Int) (c : Int → Int) (np : Int) (pp pn : Int → Int) (pg : Int → Option Nat) (o : Nat → Int64) (p : Int) (n : Int) (hYI : zYI ad ar c np pp pn pg) (hpn : zPN p n) (h8 : np < 8) : zWC l yL_plan wsL_plan D [(cI, .int), (cW, .object RX3), (cP, .object RX2), (cJ, .long)] (zYK np) (zY cI cW cP cJ ad ar c np pp pn pg o) [.ref (ad (4, 0)), .int (zI p), .int (zI n), .ref (ad (18, 0))] (S := Int × (Nat → Int64) × (zk → Nat) × (zk → Int → Int) × Int × (Int → Int) × (Int → Int) × (Int → Option Nat)) (zPp 0 np p n ad ar pp pn pg) (fun u => some (.int (zI u.1))) (fun u => zYK u.2.2.2.2.1) (fun u => zY cI cW cP cJ u.2.2.1 u.2.2.2.1 c u.2.2.2.2.1 u.2.2.2.2.2.1 u.2.2.2.2.2.2.1 u.2.2.2.2.2.2.2 u.2.1) := by
  obtain ⟨hnp, hcr, hgr, hpl⟩ := hYI
  refine z_startW (cc := cL_plan) (maxL := 5) (ret := some .int) (hh := [(0, 10, 13, 15), (0, 10, 17, 17)]) (own := RL) (by decide) rfl rfl (Nat.le_of_ble_eq_true rfl) [(0, .ref (ad (4, 0))), (1, .int (zI p)), (2, .int (zI n)), (3, .ref (ad (18, 0)))] rfl ?_
  intro pp_ ee s mm below meth cc A0 H ls hX hA0 htab hx hb hr hml hts hown hlocks hK hF hI hKA hS hA hl
  have CF : CallFix pp_ mm cc cL_plan 5 s ([.ref (ad (4, 0)), .int (zI p), .int (zI n), .ref (ad (18, 0))] : List Value).toArray wsL_plan RL := ⟨hx, hb, hml, hown, hts⟩
  refine lv_aload_n hx hb dL_plan_0 rfl (lv_at hl 3 rfl) ?_
  refine z_iconst hx hb dL_plan_1 ?_
  refine lv_aload_n hx hb dL_plan_2 rfl (lv_at hl 0 rfl) ?_
  refine lv_iload_n hx hb dL_plan_3 rfl (lv_at hl 1 rfl) ?_
  refine lv_iload_n hx hb dL_plan_4 rfl (lv_at hl 2 rfl) ?_
  have hPc := zf_sub hF [(4, 0), (6, 0)] (List.forall_mem_cons.mpr ⟨zKf 4 rfl rfl, (List.forall_mem_cons.mpr ⟨zKf 6 rfl rfl, (fun _ h => absurd h List.not_mem_nil)⟩)⟩) (wc := [((ad (4, 0)), .inr (4, [.ref (ad (5, 0)), .ref (ad (6, 0)), .int (zI np), .ref (ad (7, 0)), .ref (ad (8, 0)), .ref (ad (9, 0)), .ref (ad (10, 0))])), ((ad (6, 0)), .inl (cP, 8, .inr (.inr (.inr (.inr (fun k : Nat => pg (k : Int)))))))]) rfl
  have hDc := zf_subD hI hKA [(4, 0), (6, 0)] (List.forall_mem_cons.mpr ⟨zKf 4 rfl rfl, (List.forall_mem_cons.mpr ⟨zKf 6 rfl rfl, (fun _ h => absurd h List.not_mem_nil)⟩)⟩) (by simp) (wc := [((ad (4, 0)), .inr (4, [.ref (ad (5, 0)), .ref (ad (6, 0)), .int (zI np), .ref (ad (7, 0)), .ref (ad (8, 0)), .ref (ad (9, 0)), .ref (ad (10, 0))])), ((ad (6, 0)), .inl (cP, 8, .inr (.inr (.inr (.inr (fun k : Nat => pg (k : Int)))))))]) rfl
  refine zf_call (wc := [((ad (4, 0)), .inr (4, [.ref (ad (5, 0)), .ref (ad (6, 0)), .int (zI np), .ref (ad (7, 0)), .ref (ad (8, 0)), .ref (ad (9, 0)), .ref (ad (10, 0))])), ((ad (6, 0)), .inl (cP, 8, .inr (.inr (.inr (.inr (fun k : Nat => pg (k : Int)))))))]) (va_runV (As := [.int (zI p), .int (zI n)]) (rest := [.int (zI 0), .ref (ad (18, 0))]) CF (c_X5_plan_ok l D cI cW cP (ad (4, 0)) (ad (5, 0)) (ad (6, 0)) np (ad (7, 0)) (ad (8, 0)) (ad (9, 0)) (ad (10, 0)) pg p n (by first | omega | assumption) (by first | omega | assumption) H.size) (cwV 2 hts gL_plan_X5_plan rfl rfl rfl (by decide +kernel) ⟨Nat.le_of_ble_eq_true rfl, Nat.le_of_ble_eq_true rfl⟩) (z_preV (va_recv hK hPc (ci := 4) (q0 := 0) rfl rfl) hPc hDc z_nilP (fun i j x y _ h => by simp at h) (hK.sub (tys' := [(cI, .int), (cW, .object RX3), (cP, .object RX2)]) [0, 1, 2] rfl)) rfl rfl hl.1 rfl (lv_room (Nat.le_of_ble_eq_true rfl)) dL_plan_5 ⟨Nat.le_of_ble_eq_true rfl, Nat.le_of_ble_eq_true rfl⟩) hF hI hKA hS hA [(4, 0), (6, 0)] [(4, 0), (6, 0), (2, np), (3, np)] (List.forall_mem_cons.mpr ⟨zKf 4 rfl rfl, (List.forall_mem_cons.mpr ⟨zKf 6 rfl rfl, (fun _ h => absurd h List.not_mem_nil)⟩)⟩) rfl (fun _ => zYK (np + 1)) (fun (hp, hw, pw) => zY cI cW cP cJ (zAD ad np hp hw) (zUA ar (3, np) pw) c (np + 1) (zU pp np p) (zU pn np n) (zV pg np (some hp)) o) (fun u hu => by
        obtain ⟨hp, hw, pw⟩ := u
        exact zY_planN) (fun u hu k hk => by
        obtain ⟨hp, hw, pw⟩ := u
        exact zY_planO hnp hk) (cells' := 2) (slots' := 70) rfl rfl (fun u H locs hp_ hF hI hKA hS => ?_)
  obtain ⟨hp, hw, pw⟩ := u
  have hp_ : zPW p n pw := hp_
  have hF : zFP D (zYK (np + 1)) (zY cI cW cP cJ (zAD ad np hp hw) (zUA ar (3, np) pw) c (np + 1) (zU pp np p) (zU pn np n) (zV pg np (some hp)) o) H := hF
  have hI : zIn (zYK (np + 1)) (zY cI cW cP cJ (zAD ad np hp hw) (zUA ar (3, np) pw) c (np + 1) (zU pp np p) (zU pn np n) (zV pg np (some hp)) o) := hI
  have hrg_ : -2147483648 ≤ np ∧ np ≤ 2147483647 := by omega
  refine z_i2l hx hb dL_plan_8 hrg_ ?_
  refine zw_last hx hb hK hF hI hKA hS (ko := (18, 0)) (zKf 18 rfl rfl) (a := ad (18, 0)) (v := np) (zY_plan18 ad np hp hw) 3 rfl dL_plan_9 (zY cI cW cP cJ (zAD ad np hp hw) (zUA ar (3, np) pw) c (np + 1) (zU pp np p) (zU pn np n) (zV pg np (some hp)) (vp_updL o 0 (zL np))) (fun k hk hne => zY_out hk hne) (zY_plan18 ad np hp hw) (fun H locs hF hI hKA hS => ?_)
  refine lv_goto (tgt := 21) hx hb dL_plan_10 (by decide) ?_
  refine z_iconst hx hb dL_plan_21 ?_
  refine W.widen (k := 2) (n := 70) (Nat.le_of_ble_eq_true rfl) (Nat.le_of_ble_eq_true rfl) ?_
  exact zw_iret hx hb hr hlocks (0, vp_updL o 0 (zL np), zAD ad np hp hw, zUA ar (3, np) pw, np + 1, zU pp np p, zU pn np n, zV pg np (some hp)) rfl (zPp_ok (if_pos rfl) hp_ rfl) hF hI hKA hS dL_plan_22

set_option maxHeartbeats 4000000 in
theorem W_plan (l : Launch) (hl9 : l.stackTraces = false) (D : va_G) (cI cW cP cJ : ClassId) (ad : zk → Nat) (ar : zk → Int → Int) (c : Int → Int) (np : Int) (pp pn : Int → Int) (pg : Int → Option Nat) (o : Nat → Int64) (p n : Int) (hYI : zYI ad ar c np pp pn pg) (ha_p : -2147483648 ≤ p ∧ p ≤ 2147483647) (ha_n : -2147483648 ≤ n ∧ n ≤ 2147483647) : zWC l yL_plan wsL_plan D [(cI, .int), (cW, .object RX3), (cP, .object RX2), (cJ, .long)] (zYK np) (zY cI cW cP cJ ad ar c np pp pn pg o) [.ref (ad (4, 0)), .int (zI p), .int (zI n), .ref (ad (18, 0))] (S := Int × (Nat → Int64) × (zk → Nat) × (zk → Int → Int) × Int × (Int → Int) × (Int → Int) × (Int → Option Nat)) (zPp (kPlan np p n) np p n ad ar pp pn pg) (fun u => some (.int (zI u.1))) (fun u => zYK u.2.2.2.2.1) (fun u => zY cI cW cP cJ u.2.2.1 u.2.2.2.1 c u.2.2.2.2.1 u.2.2.2.2.2.1 u.2.2.2.2.2.2.1 u.2.2.2.2.2.2.2 u.2.1) := by
  have hnp := hYI.1
  by_cases h1 : p < 3
  · have ek : kPlan np p n = 1 := by unfold kPlan; rw [if_pos h1]
    rw [ek]
    exact w_plan_e1a l hl9 D cI cW cP cJ ad ar c np pp pn pg o p n hYI (by first | omega | assumption) (by first | omega | assumption) (by first | omega | assumption)
  by_cases h2 : 9973 < p
  · have ek : kPlan np p n = 1 := by unfold kPlan; rw [if_neg h1, if_pos h2]
    rw [ek]
    exact w_plan_e1b l hl9 D cI cW cP cJ ad ar c np pp pn pg o p n hYI (by first | omega | assumption) (by first | omega | assumption) (by first | omega | assumption)
  by_cases h3 : 1 < p ∧ lfac p = p
  rotate_left
  · have ek : kPlan np p n = 1 := by unfold kPlan; rw [if_neg h1, if_neg h2, if_pos h3]
    rw [ek]
    exact w_plan_e1c l hl9 D cI cW cP cJ ad ar c np pp pn pg o p n hYI (by first | omega | assumption) (by first | omega | assumption) (by first | omega | assumption)
  by_cases h4 : n < 1
  · have ek : kPlan np p n = 1 := by unfold kPlan; rw [if_neg h1, if_neg h2, if_neg (not_not_intro h3), if_pos h4]
    rw [ek]
    exact w_plan_e1d l hl9 D cI cW cP cJ ad ar c np pp pn pg o p n hYI (by first | omega | assumption) (by first | omega | assumption) (by first | omega | assumption) (by first | omega | assumption)
  by_cases h5 : 64 < n
  · have ek : kPlan np p n = 1 := by unfold kPlan; rw [if_neg h1, if_neg h2, if_neg (not_not_intro h3), if_neg h4, if_pos h5]
    rw [ek]
    exact w_plan_e1e l hl9 D cI cW cP cJ ad ar c np pp pn pg o p n hYI (by first | omega | assumption) (by first | omega | assumption) (by first | omega | assumption) (by first | omega | assumption)
  by_cases h6 : (p - 1) % n ≠ 0
  · have ek : kPlan np p n = 1 := by unfold kPlan; rw [if_neg h1, if_neg h2, if_neg (not_not_intro h3), if_neg h4, if_neg h5, if_pos h6]
    rw [ek]
    exact w_plan_e1f l hl9 D cI cW cP cJ ad ar c np pp pn pg o p n hYI (by first | omega | assumption) (by first | omega | assumption) (by first | omega | assumption) (by first | omega | assumption)
  by_cases h7 : np = 8
  · have ek : kPlan np p n = 2 := by unfold kPlan; rw [if_neg h1, if_neg h2, if_neg (not_not_intro h3), if_neg h4, if_neg h5, if_neg h6, if_pos h7]
    rw [ek]
    exact w_plan_e2 l hl9 D cI cW cP cJ ad ar c np pp pn pg o p n hYI (by first | omega | assumption) (by first | omega | assumption) (by first | omega | assumption) (by first | omega | assumption) (by first | omega | assumption)
  have ek : kPlan np p n = 0 := by unfold kPlan; rw [if_neg h1, if_neg h2, if_neg (not_not_intro h3), if_neg h4, if_neg h5, if_neg h6, if_neg h7]
  rw [ek]
  exact w_plan_ok l hl9 D cI cW cP cJ ad ar c np pp pn pg o p n hYI ⟨⟨by omega, by omega, h3.2⟩, by omega, by omega, by omega, Decidable.byContradiction h6⟩ (by omega)

end WC
