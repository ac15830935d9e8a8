section YM
theorem rowAt_push {g : Int → Int} {n x : Int} (hn : 0 ≤ n) : rowAt (zU g n x) (n + 1) = zU (rowAt g n) n x := by
  funext k
  by_cases e : k = n
  · subst e; rw [zU_s, rowAt_in ⟨hn, by omega⟩, zU_s]
  · rw [zU_n _ _ e]
    by_cases h : 0 ≤ k ∧ k < n
    · rw [rowAt_in ⟨h.1, by omega⟩, rowAt_in h, zU_n _ _ e]
    · rw [rowAt_out (by omega), rowAt_out h]
theorem rowAt_all {ar : zk → Int → Int} {c : Int → Int} {a lo hi : Int} (h : ∀ k, lo ≤ zG ar c a k ∧ zG ar c a k ≤ hi) : ∀ k, 0 ≤ k → k < c a → lo ≤ ar (1, a) k ∧ ar (1, a) k ≤ hi := fun k h1 h2 => by
  have q := h k
  unfold zG at q
  rw [rowAt_in ⟨h1, h2⟩] at q
  exact q
theorem rowAt_2 {g : Int → Int} {c k : Int} : rowAt (rowAt g c) c k = rowAt g c k := by
  by_cases h : 0 ≤ k ∧ k < c
  · rw [rowAt_in h]
  · rw [rowAt_out h, rowAt_out h]
theorem lin_G {ar : zk → Int → Int} {c : Int → Int} {a b k : Int} : lin (zG ar c a) (c a) (zG ar c b) (c b) k = lin (ar (1, a)) (c a) (ar (1, b)) (c b) k := by
  unfold lin zG
  exact zT_congr (fun j _ _ => by rw [rowAt_2, rowAt_2])
/-- a plan's powers, said once and for all -/
def yPw (p n : Int) : Int → Int := fun k => pwm (zRoot p n) k p
theorem yPw_ok (p n : Int) : zPW p n (yPw p n) := fun _ _ _ => rfl
theorem dft_pw {p n : Int} {pw : Int → Int} (hn : 1 ≤ n) (h : zPW p n pw) {sz t : Int} {g : Int → Int} {k : Int} : dft p n pw sz t g k = dft p n (yPw p n) sz t g k := by
  unfold dft
  congr 1
  refine zT_congr (fun j _ _ => ?_)
  have q := z_rem (a := t * j * k) (n := n) hn
  rw [h _ q.1 q.2]
  rfl
variable (l : Launch) (D : va_G) (cI cW cP : ClassId) (ad : zk → Nat) (np : Int) (pp pn : Int → Int) (pg : Int → Option Nat) (b L : Nat) (xs : Nat → Int32)
set_option maxHeartbeats 1000000 in
theorem y_length (hE : yE ad np b L) (c : Int → Int) (G : Int → Int → Int) (a : Int) (ha : 0 ≤ a ∧ a < 4) : yC l yX5_length wsX5_length ({ frames := 1, cells := 0, slots := 0, locals := 21 } : Room) D cI cW cP ad np pp pn pg b L xs c G [.ref (ad (4, 0)), .int (zI a)] (fun v c' G' => c a = v ∧ c = c' ∧ G = G') := by
  refine yc_lift hE rfl rfl (fun ar hI hG => ?_)
  subst hG
  obtain ⟨hnp, hcr, hgr, hpl⟩ := id hI
  refine ⟨Unit, _, [0, 1, 2], [], [(4, 0), (5, 0), (0, a)], _, _, _, c_X5_length_ok l D cI cW cP (ad (4, 0)) (ad (5, 0)) (ad (6, 0)) np (ad (7, 0)) (ad (8, 0)) (ad (9, 0)) (ad (10, 0)) (zRg ad) a (ad (0, a)) (ad (1, a)) (c a) ha (zRg_at ha), rfl, fun _ h => absurd h List.not_mem_nil, List.forall_mem_cons.mpr ⟨zKf 4 rfl rfl, List.forall_mem_cons.mpr ⟨zKf 5 rfl rfl, List.forall_mem_cons.mpr ⟨zK0 ha, fun _ h => absurd h List.not_mem_nil⟩⟩⟩, by simp, by simp, fun u hu => ?_⟩
  refine ⟨c a, ar, c, rfl, rfl, fun k hk => rfl, hI, rfl, rfl, rfl⟩

set_option maxHeartbeats 1000000 in
theorem y_at (hE : yE ad np b L) (c : Int → Int) (G : Int → Int → Int) (a x : Int) (ha : 0 ≤ a ∧ a < 4) (hx : 0 ≤ x ∧ x < c a) : yC l yX5_at wsX5_at ({ frames := 1, cells := 0, slots := 0, locals := 21 } : Room) D cI cW cP ad np pp pn pg b L xs c G [.ref (ad (4, 0)), .int (zI a), .int (zI x)] (fun v c' G' => G a x = v ∧ c = c' ∧ G = G') := by
  refine yc_lift hE rfl rfl (fun ar hI hG => ?_)
  subst hG
  obtain ⟨hnp, hcr, hgr, hpl⟩ := id hI
  refine ⟨Unit, _, [0, 1, 2], [], [(4, 0), (5, 0), (0, a), (1, a)], _, _, _, c_X5_at_ok l D cI cW cP (ad (4, 0)) (ad (5, 0)) (ad (6, 0)) np (ad (7, 0)) (ad (8, 0)) (ad (9, 0)) (ad (10, 0)) (zRg ad) a x (ad (0, a)) (ad (1, a)) (c a) (ar (1, a)) ha (zRg_at ha) (hcr a ha) hx, rfl, fun _ h => absurd h List.not_mem_nil, List.forall_mem_cons.mpr ⟨zKf 4 rfl rfl, List.forall_mem_cons.mpr ⟨zKf 5 rfl rfl, List.forall_mem_cons.mpr ⟨zK0 ha, List.forall_mem_cons.mpr ⟨zK1 ha, fun _ h => absurd h List.not_mem_nil⟩⟩⟩⟩, by simp, by simp, fun u hu => ?_⟩
  refine ⟨ar (1, a) x, ar, c, rfl, rfl, fun k hk => rfl, hI, rowAt_in hx, rfl, rfl⟩

set_option maxHeartbeats 1000000 in
theorem y_ways (hE : yE ad np b L) (c : Int → Int) (G : Int → Int → Int) (i : Int) (hi : 0 ≤ i ∧ i < np) : yC l yX5_ways wsX5_ways ({ frames := 1, cells := 0, slots := 0, locals := 22 } : Room) D cI cW cP ad np pp pn pg b L xs c G [.ref (ad (4, 0)), .int (zI i)] (fun v c' G' => wset (pn i) = v ∧ c = c' ∧ G = G') := by
  refine yc_lift hE rfl rfl (fun ar hI hG => ?_)
  subst hG
  obtain ⟨hnp, hcr, hgr, hpl⟩ := id hI
  refine ⟨Unit, _, [0, 1, 2], [], [(4, 0), (6, 0), (2, i)], _, _, _, c_X5_ways_ok l D cI cW cP (ad (4, 0)) (ad (5, 0)) (ad (6, 0)) np (ad (7, 0)) (ad (8, 0)) (ad (9, 0)) (ad (10, 0)) pg i (ad (2, i)) (pp i) (pn i) (ad (3, i)) ⟨hi.1, hi.2, hnp.2⟩ (hpl i hi).2.2, rfl, fun _ h => absurd h List.not_mem_nil, List.forall_mem_cons.mpr ⟨zKf 4 rfl rfl, List.forall_mem_cons.mpr ⟨zKf 6 rfl rfl, List.forall_mem_cons.mpr ⟨zK2 hi, fun _ h => absurd h List.not_mem_nil⟩⟩⟩, by simp, by simp, fun u hu => ?_⟩
  refine ⟨wset (pn i), ar, c, rfl, rfl, fun k hk => rfl, hI, rfl, rfl, rfl⟩

set_option maxHeartbeats 1000000 in
theorem y_plans (hE : yE ad np b L) (c : Int → Int) (G : Int → Int → Int)  : yC l yX5_plans wsX5_plans ({ frames := 0, cells := 0, slots := 0, locals := 0 } : Room) D cI cW cP ad np pp pn pg b L xs c G [.ref (ad (4, 0))] (fun v c' G' => np = v ∧ c = c' ∧ G = G') := by
  refine yc_lift hE rfl rfl (fun ar hI hG => ?_)
  subst hG
  obtain ⟨hnp, hcr, hgr, hpl⟩ := id hI
  refine ⟨Unit, _, [], [], [(4, 0)], _, _, _, c_X5_plans l D (ad (4, 0)) (ad (5, 0)) (ad (6, 0)) np (ad (7, 0)) (ad (8, 0)) (ad (9, 0)) (ad (10, 0)), rfl, fun _ h => absurd h List.not_mem_nil, List.forall_mem_cons.mpr ⟨zKf 4 rfl rfl, fun _ h => absurd h List.not_mem_nil⟩, by simp, by simp, fun u hu => ?_⟩
  refine ⟨np, ar, c, rfl, rfl, fun k hk => rfl, hI, rfl, rfl, rfl⟩

set_option maxHeartbeats 1000000 in
theorem y_append (hE : yE ad np b L) (c : Int → Int) (G : Int → Int → Int) (a x : Int) (ha : 0 ≤ a ∧ a < 4) (hx : -9999 ≤ x ∧ x ≤ 9999) (hc : c a < 64) : yC l yX5_append wsX5_append ({ frames := 1, cells := 0, slots := 0, locals := 21 } : Room) D cI cW cP ad np pp pn pg b L xs c G [.ref (ad (4, 0)), .int (zI a), .int (zI x)] (fun v c' G' => c a + 1 = v ∧ c' a = c a + 1 ∧ G' a = zU (G a) (c a) x ∧ ∀ r, r ≠ a → c' r = c r ∧ G' r = G r) := by
  refine yc_lift hE rfl rfl (fun ar hI hG => ?_)
  subst hG
  obtain ⟨hnp, hcr, hgr, hpl⟩ := id hI
  have hca := hcr a ha
  refine ⟨Unit, _, [0, 1, 2], [(0, a), (1, a)], [(4, 0), (5, 0)], _, _, _, c_X5_append_ok l D cI cW cP (ad (4, 0)) (ad (5, 0)) (ad (6, 0)) np (ad (7, 0)) (ad (8, 0)) (ad (9, 0)) (ad (10, 0)) (zRg ad) a x (ad (0, a)) (ad (1, a)) (c a) (ar (1, a)) ha (zRg_at ha) hx ⟨(hcr a ha).1, hc⟩, rfl, List.forall_mem_cons.mpr ⟨zK0 ha, List.forall_mem_cons.mpr ⟨zK1 ha, fun _ h => absurd h List.not_mem_nil⟩⟩, List.forall_mem_cons.mpr ⟨zKf 4 rfl rfl, List.forall_mem_cons.mpr ⟨zKf 5 rfl rfl, fun _ h => absurd h List.not_mem_nil⟩⟩, by simp, by simp, fun u hu => ?_⟩
  refine ⟨c a + 1, (zUA ar (1, a) (zU (ar (1, a)) (c a) x)), (zU c a (c a + 1)), rfl, by simp [zY, zUA, zU_s], fun k hk => by simp only [List.mem_cons, List.not_mem_nil, or_false, not_or] at hk; exact zY_ext (by simp [zUA, hk]) (fun h0 => zU_n _ _ (fun h1 => hk.1 (Prod.ext h0 h1))), zYI_up hI (by omega) (fun k h1 h2 => by rw [show zUA ar (1, a) (zU (ar (1, a)) (c a) x) (1, a) = zU (ar (1, a)) (c a) x from by simp [zUA]]; by_cases e : k = c a; (subst e; rw [zU_s]; omega); (rw [zU_n _ _ e]; exact hgr a ha k h1 (by omega))) (fun r hr => by simp [zUA, hr]) (fun i => by simp [zUA]), rfl, zU_s _ _ _, zG_t (by rw [show zUA ar (1, a) (zU (ar (1, a)) (c a) x) (1, a) = zU (ar (1, a)) (c a) x from by simp [zUA]]; exact rowAt_push hca.1), fun r hr => ⟨zU_n _ _ hr, zG_o hr (by simp [zUA, hr])⟩⟩

set_option maxHeartbeats 1000000 in
theorem y_clear (hE : yE ad np b L) (c : Int → Int) (G : Int → Int → Int) (a : Int) (ha : 0 ≤ a ∧ a < 4) : yC l yX5_clear wsX5_clear ({ frames := 1, cells := 0, slots := 0, locals := 21 } : Room) D cI cW cP ad np pp pn pg b L xs c G [.ref (ad (4, 0)), .int (zI a)] (fun v c' G' => c a = v ∧ c' a = 0 ∧ (∀ k, G' a k = 0) ∧ ∀ r, r ≠ a → c' r = c r ∧ G' r = G r) := by
  refine yc_lift hE rfl rfl (fun ar hI hG => ?_)
  subst hG
  obtain ⟨hnp, hcr, hgr, hpl⟩ := id hI
  refine ⟨Unit, _, [0, 1, 2], [(0, a)], [(4, 0), (5, 0)], _, _, _, c_X5_clear_ok l D cI cW cP (ad (4, 0)) (ad (5, 0)) (ad (6, 0)) np (ad (7, 0)) (ad (8, 0)) (ad (9, 0)) (ad (10, 0)) (zRg ad) a (ad (0, a)) (ad (1, a)) (c a) ha (zRg_at ha), rfl, List.forall_mem_cons.mpr ⟨zK0 ha, fun _ h => absurd h List.not_mem_nil⟩, List.forall_mem_cons.mpr ⟨zKf 4 rfl rfl, List.forall_mem_cons.mpr ⟨zKf 5 rfl rfl, fun _ h => absurd h List.not_mem_nil⟩⟩, by simp, by simp, fun u hu => ?_⟩
  refine ⟨c a, ar, (zU c a 0), rfl, by simp [zY, zUA, zU_s], fun k hk => by simp only [List.mem_cons, List.not_mem_nil, or_false, not_or] at hk; exact zY_ext (rfl) (fun h0 => zU_n _ _ (fun h1 => hk (Prod.ext h0 h1))), zYI_up hI (by omega) (fun k h1 h2 => absurd h2 (by omega)) (fun _ _ => rfl) (fun _ => rfl), rfl, zU_s _ _ _, fun k => by rw [zG_t (g := fun _ => 0) (by funext k; exact rowAt_out (by omega))], fun r hr => ⟨zU_n _ _ hr, zG_o hr rfl⟩⟩

set_option maxHeartbeats 1000000 in
theorem y_copy (hE : yE ad np b L) (c : Int → Int) (G : Int → Int → Int) (a t : Int) (ha : 0 ≤ a ∧ a < 4) (ht : 0 ≤ t ∧ t < 4) (hne : a ≠ t) : yC l yX5_copy wsX5_copy ({ frames := 3, cells := 0, slots := 0, locals := 58 } : Room) D cI cW cP ad np pp pn pg b L xs c G [.ref (ad (4, 0)), .int (zI a), .int (zI t)] (fun v c' G' => c a = v ∧ c' t = c a ∧ G' t = G a ∧ ∀ r, r ≠ t → c' r = c r ∧ G' r = G r) := by
  refine yc_lift hE rfl rfl (fun ar hI hG => ?_)
  subst hG
  obtain ⟨hnp, hcr, hgr, hpl⟩ := id hI
  refine ⟨_, _, [0, 1, 2], [(0, t), (1, t)], [(4, 0), (5, 0), (0, a), (1, a)], _, _, _, c_X5_copy_D l D cI cW cP (ad (4, 0)) (ad (5, 0)) (ad (6, 0)) np (ad (7, 0)) (ad (8, 0)) (ad (9, 0)) (ad (10, 0)) (zRg ad) a t (ad (0, a)) (ad (1, a)) (c a) (ar (1, a)) (ad (0, t)) (ad (1, t)) (c t) (ar (1, t)) ha (zRg_at ha) ht (zRg_at ht) (hcr a ha), rfl, List.forall_mem_cons.mpr ⟨zK0 ht, List.forall_mem_cons.mpr ⟨zK1 ht, fun _ h => absurd h List.not_mem_nil⟩⟩, List.forall_mem_cons.mpr ⟨zKf 4 rfl rfl, List.forall_mem_cons.mpr ⟨zKf 5 rfl rfl, List.forall_mem_cons.mpr ⟨zK0 ha, List.forall_mem_cons.mpr ⟨zK1 ha, fun _ h => absurd h List.not_mem_nil⟩⟩⟩⟩, by simp, by simp [hne], fun u hu => ?_⟩
  replace hu : ∀ k, 0 ≤ k → k < c a → u k = ar (1, a) k := hu
  refine ⟨c a, (zUA ar (1, t) u), (zU c t (c a)), rfl, by simp [zY, zUA, zU_s], fun k hk => by simp only [List.mem_cons, List.not_mem_nil, or_false, not_or] at hk; exact zY_ext (by simp [zUA, hk]) (fun h0 => zU_n _ _ (fun h1 => hk.1 (Prod.ext h0 h1))), zYI_up hI (hcr a ha) (fun k h1 h2 => by rw [show zUA ar (1, t) u (1, t) = u from by simp [zUA], hu k h1 h2]; exact hgr a ha k h1 h2) (fun r hr => by simp [zUA, hr]) (fun i => by simp [zUA]), rfl, zU_s _ _ _, zG_t (by rw [show zUA ar (1, t) u (1, t) = u from by simp [zUA]]; exact rowAt_ext hu), fun r hr => ⟨zU_n _ _ hr, zG_o hr (by simp [zUA, hr])⟩⟩

set_option maxHeartbeats 1000000 in
theorem y_forward (hE : yE ad np b L) (c : Int → Int) (G : Int → Int → Int) (i a w : Int) (hi : 0 ≤ i ∧ i < np) (ha : 0 ≤ a ∧ a < 4) (hw4 : 0 ≤ w ∧ w ≤ 4) (hww : wset (pn i) / 2 ^ w.toNat % 2 = 1) (hfit : c a ≤ pn i) : yC l yX5_forward wsX5_forward ({ frames := 6, cells := 0, slots := 0, locals := 160 } : Room) D cI cW cP ad np pp pn pg b L xs c G [.ref (ad (4, 0)), .int (zI i), .int (zI a), .int (zI w)] (fun v c' G' => dft (pp i) (pn i) (yPw (pp i) (pn i)) (pn i) 1 (fun j => G a j % pp i) 0 = v ∧ c' a = pn i ∧ G' a = rowAt (fun k => dft (pp i) (pn i) (yPw (pp i) (pn i)) (pn i) 1 (fun j => G a j % pp i) k) (pn i) ∧ ∀ r, r ≠ a → c' r = c r ∧ G' r = G r) := by
  refine yc_lift hE rfl rfl (fun ar hI hG => ?_)
  subst hG
  obtain ⟨hnp, hcr, hgr, hpl⟩ := id hI
  have hpn := (hpl i hi).1
  have hn := hpn.2.2
  have hp9 := hpn.2.1
  have hp3 := hpn.1.1
  have hpw : ∀ k, dft (pp i) (pn i) (ar (3, i)) (pn i) 1 (fun j => rowAt (ar (1, a)) (c a) j % pp i) k = dft (pp i) (pn i) (yPw (pp i) (pn i)) (pn i) 1 (fun j => zG ar c a j % pp i) k := fun k => by rw [dft_pw hpn.2.2.1 (hpl i hi).2.1]; rfl
  have hrg : ∀ k, 0 ≤ dft (pp i) (pn i) (yPw (pp i) (pn i)) (pn i) 1 (fun j => zG ar c a j % pp i) k ∧ dft (pp i) (pn i) (yPw (pp i) (pn i)) (pn i) 1 (fun j => zG ar c a j % pp i) k < pp i := fun k => z_rem (by omega)
  refine ⟨_, _, [0, 1, 2], [(0, a), (1, a), (9, 0), (11, 0), (12, 0), (13, 0), (14, 0), (15, 0)], [(4, 0), (5, 0), (6, 0), (7, 0), (2, i), (3, i)], _, _, _, c_X5_forward_ok l D cI cW cP (ad (4, 0)) (ad (5, 0)) (ad (6, 0)) np (ad (7, 0)) (ad (8, 0)) (ad (9, 0)) (ad (10, 0)) (zRg ad) pg (ad (11, 0)) (ad (12, 0)) (ad (13, 0)) (ad (14, 0)) (ad (15, 0)) i a w (ad (2, i)) (pp i) (pn i) (ad (3, i)) (ar (3, i)) (ad (0, a)) (ad (1, a)) (c a) (ar (1, a)) (ar (9, 0)) (ar (11, 0)) (ar (12, 0)) (ar (13, 0)) (ar (14, 0)) (ar (15, 0)) ⟨hi.1, hi.2, hnp.2⟩ (hpl i hi).2.2 ha (zRg_at ha) (hpl i hi).1 (hpl i hi).2.1 (hcr a ha) (hgr a ha) hfit hw4 hww, rfl, List.forall_mem_cons.mpr ⟨zK0 ha, List.forall_mem_cons.mpr ⟨zK1 ha, List.forall_mem_cons.mpr ⟨zKf 9 rfl rfl, List.forall_mem_cons.mpr ⟨zKf 11 rfl rfl, List.forall_mem_cons.mpr ⟨zKf 12 rfl rfl, List.forall_mem_cons.mpr ⟨zKf 13 rfl rfl, List.forall_mem_cons.mpr ⟨zKf 14 rfl rfl, List.forall_mem_cons.mpr ⟨zKf 15 rfl rfl, fun _ h => absurd h List.not_mem_nil⟩⟩⟩⟩⟩⟩⟩⟩, List.forall_mem_cons.mpr ⟨zKf 4 rfl rfl, List.forall_mem_cons.mpr ⟨zKf 5 rfl rfl, List.forall_mem_cons.mpr ⟨zKf 6 rfl rfl, List.forall_mem_cons.mpr ⟨zKf 7 rfl rfl, List.forall_mem_cons.mpr ⟨zK2 hi, List.forall_mem_cons.mpr ⟨zK3 hi, fun _ h => absurd h List.not_mem_nil⟩⟩⟩⟩⟩⟩, by simp, by simp, fun u hu => ?_⟩
  obtain ⟨a2, gl2, gm2, gd2, gn_2, gs2, gc2⟩ := u
  replace hu : ∀ k, 0 ≤ k → k < pn i → a2 k = dft (pp i) (pn i) (ar (3, i)) (pn i) 1 (fun j => rowAt (ar (1, a)) (c a) j % pp i) k := hu
  have h1a : (zUA (zUA (zUA (zUA (zUA (zUA (zUA ar (1, a) a2) (9, 0) gl2) (11, 0) gm2) (12, 0) gd2) (13, 0) gn_2) (14, 0) gs2) (15, 0) gc2) (1, a) = a2 := by simp [zUA]
  refine ⟨dft (pp i) (pn i) (ar (3, i)) (pn i) 1 (fun j => rowAt (ar (1, a)) (c a) j % pp i) 0, (zUA (zUA (zUA (zUA (zUA (zUA (zUA ar (1, a) a2) (9, 0) gl2) (11, 0) gm2) (12, 0) gd2) (13, 0) gn_2) (14, 0) gs2) (15, 0) gc2), (zU c a (pn i)), rfl, by simp [zY, zUA, zU_s], fun k hk => by simp only [List.mem_cons, List.not_mem_nil, or_false, not_or] at hk; exact zY_ext (by simp [zUA, hk]) (fun h0 => zU_n _ _ (fun h1 => hk.1 (Prod.ext h0 h1))), zYI_up hI (by omega) (fun k h1 h2 => by rw [h1a, hu k h1 h2, hpw k]; have := hrg k; omega) (fun r hr => by simp [zUA, hr]) (fun i => by simp [zUA]), (hpw 0).symm, zU_s _ _ _, zG_t (by rw [h1a]; exact rowAt_ext (fun k h1 h2 => by rw [hu k h1 h2]; exact hpw k)), fun r hr => ⟨zU_n _ _ hr, zG_o hr (by simp [zUA, hr])⟩⟩

set_option maxHeartbeats 1000000 in
theorem y_backward (hE : yE ad np b L) (c : Int → Int) (G : Int → Int → Int) (i a w : Int) (hi : 0 ≤ i ∧ i < np) (ha : 0 ≤ a ∧ a < 4) (hw4 : 0 ≤ w ∧ w ≤ 4) (hww : wset (pn i) / 2 ^ w.toNat % 2 = 1) (hfit : c a ≤ pn i) : yC l yX5_backward wsX5_backward ({ frames := 6, cells := 0, slots := 0, locals := 160 } : Room) D cI cW cP ad np pp pn pg b L xs c G [.ref (ad (4, 0)), .int (zI i), .int (zI a), .int (zI w)] (fun v c' G' => dft (pp i) (pn i) (yPw (pp i) (pn i)) (pn i) (pn i - 1) (fun j => G a j % pp i) 0 * zInv (pp i) (pn i) % pp i = v ∧ c' a = pn i ∧ G' a = rowAt (fun k => dft (pp i) (pn i) (yPw (pp i) (pn i)) (pn i) (pn i - 1) (fun j => G a j % pp i) k * zInv (pp i) (pn i) % pp i) (pn i) ∧ ∀ r, r ≠ a → c' r = c r ∧ G' r = G r) := by
  refine yc_lift hE rfl rfl (fun ar hI hG => ?_)
  subst hG
  obtain ⟨hnp, hcr, hgr, hpl⟩ := id hI
  have hpn := (hpl i hi).1
  have hn := hpn.2.2
  have hp9 := hpn.2.1
  have hp3 := hpn.1.1
  have hpw : ∀ k, dft (pp i) (pn i) (ar (3, i)) (pn i) (pn i - 1) (fun j => rowAt (ar (1, a)) (c a) j % pp i) k * zInv (pp i) (pn i) % pp i = dft (pp i) (pn i) (yPw (pp i) (pn i)) (pn i) (pn i - 1) (fun j => zG ar c a j % pp i) k * zInv (pp i) (pn i) % pp i := fun k => by rw [dft_pw hpn.2.2.1 (hpl i hi).2.1]; rfl
  have hrg : ∀ k, 0 ≤ dft (pp i) (pn i) (yPw (pp i) (pn i)) (pn i) (pn i - 1) (fun j => zG ar c a j % pp i) k * zInv (pp i) (pn i) % pp i ∧ dft (pp i) (pn i) (yPw (pp i) (pn i)) (pn i) (pn i - 1) (fun j => zG ar c a j % pp i) k * zInv (pp i) (pn i) % pp i < pp i := fun k => z_rem (by omega)
  refine ⟨_, _, [0, 1, 2], [(0, a), (1, a), (9, 0), (11, 0), (12, 0), (13, 0), (14, 0), (15, 0)], [(4, 0), (5, 0), (6, 0), (7, 0), (2, i), (3, i)], _, _, _, c_X5_backward_ok l D cI cW cP (ad (4, 0)) (ad (5, 0)) (ad (6, 0)) np (ad (7, 0)) (ad (8, 0)) (ad (9, 0)) (ad (10, 0)) (zRg ad) pg (ad (11, 0)) (ad (12, 0)) (ad (13, 0)) (ad (14, 0)) (ad (15, 0)) i a w (ad (2, i)) (pp i) (pn i) (ad (3, i)) (ar (3, i)) (ad (0, a)) (ad (1, a)) (c a) (ar (1, a)) (ar (9, 0)) (ar (11, 0)) (ar (12, 0)) (ar (13, 0)) (ar (14, 0)) (ar (15, 0)) ⟨hi.1, hi.2, hnp.2⟩ (hpl i hi).2.2 ha (zRg_at ha) (hpl i hi).1 (hpl i hi).2.1 (hcr a ha) (hgr a ha) hfit hw4 hww, rfl, List.forall_mem_cons.mpr ⟨zK0 ha, List.forall_mem_cons.mpr ⟨zK1 ha, List.forall_mem_cons.mpr ⟨zKf 9 rfl rfl, List.forall_mem_cons.mpr ⟨zKf 11 rfl rfl, List.forall_mem_cons.mpr ⟨zKf 12 rfl rfl, List.forall_mem_cons.mpr ⟨zKf 13 rfl rfl, List.forall_mem_cons.mpr ⟨zKf 14 rfl rfl, List.forall_mem_cons.mpr ⟨zKf 15 rfl rfl, fun _ h => absurd h List.not_mem_nil⟩⟩⟩⟩⟩⟩⟩⟩, List.forall_mem_cons.mpr ⟨zKf 4 rfl rfl, List.forall_mem_cons.mpr ⟨zKf 5 rfl rfl, List.forall_mem_cons.mpr ⟨zKf 6 rfl rfl, List.forall_mem_cons.mpr ⟨zKf 7 rfl rfl, List.forall_mem_cons.mpr ⟨zK2 hi, List.forall_mem_cons.mpr ⟨zK3 hi, fun _ h => absurd h List.not_mem_nil⟩⟩⟩⟩⟩⟩, by simp, by simp, fun u hu => ?_⟩
  obtain ⟨a2, gl2, gm2, gd2, gn_2, gs2, gc2⟩ := u
  replace hu : ∀ k, 0 ≤ k → k < pn i → a2 k = dft (pp i) (pn i) (ar (3, i)) (pn i) (pn i - 1) (fun j => rowAt (ar (1, a)) (c a) j % pp i) k * zInv (pp i) (pn i) % pp i := hu
  have h1a : (zUA (zUA (zUA (zUA (zUA (zUA (zUA ar (1, a) a2) (9, 0) gl2) (11, 0) gm2) (12, 0) gd2) (13, 0) gn_2) (14, 0) gs2) (15, 0) gc2) (1, a) = a2 := by simp [zUA]
  refine ⟨dft (pp i) (pn i) (ar (3, i)) (pn i) (pn i - 1) (fun j => rowAt (ar (1, a)) (c a) j % pp i) 0 * zInv (pp i) (pn i) % pp i, (zUA (zUA (zUA (zUA (zUA (zUA (zUA ar (1, a) a2) (9, 0) gl2) (11, 0) gm2) (12, 0) gd2) (13, 0) gn_2) (14, 0) gs2) (15, 0) gc2), (zU c a (pn i)), rfl, by simp [zY, zUA, zU_s], fun k hk => by simp only [List.mem_cons, List.not_mem_nil, or_false, not_or] at hk; exact zY_ext (by simp [zUA, hk]) (fun h0 => zU_n _ _ (fun h1 => hk.1 (Prod.ext h0 h1))), zYI_up hI (by omega) (fun k h1 h2 => by rw [h1a, hu k h1 h2, hpw k]; have := hrg k; omega) (fun r hr => by simp [zUA, hr]) (fun i => by simp [zUA]), (hpw 0).symm, zU_s _ _ _, zG_t (by rw [h1a]; exact rowAt_ext (fun k h1 h2 => by rw [hu k h1 h2]; exact hpw k)), fun r hr => ⟨zU_n _ _ hr, zG_o hr (by simp [zUA, hr])⟩⟩

set_option maxHeartbeats 1000000 in
theorem y_convolve (hE : yE ad np b L) (c : Int → Int) (G : Int → Int → Int) (i a b_ t : Int) (hi : 0 ≤ i ∧ i < np) (ha : 0 ≤ a ∧ a < 4) (hb_ : 0 ≤ b_ ∧ b_ < 4) (ht : 0 ≤ t ∧ t < 4) (hat : a ≠ t) (hbt : b_ ≠ t) (hfa : c a ≤ pn i) (hfb : c b_ ≤ pn i) : yC l yX5_convolve wsX5_convolve ({ frames := 4, cells := 0, slots := 0, locals := 107 } : Room) D cI cW cP ad np pp pn pg b L xs c G [.ref (ad (4, 0)), .int (zI i), .int (zI a), .int (zI b_), .int (zI t)] (fun v c' G' => pn i = v ∧ c' t = pn i ∧ G' t = rowAt (fun k => cyc (pp i) (pn i) (fun j => G a j % pp i) (fun j => G b_ j % pp i) k) (pn i) ∧ ∀ r, r ≠ t → c' r = c r ∧ G' r = G r) := by
  refine yc_lift hE rfl rfl (fun ar hI hG => ?_)
  subst hG
  obtain ⟨hnp, hcr, hgr, hpl⟩ := id hI
  have hpn := (hpl i hi).1
  have hn := hpn.2.2
  have hp9 := hpn.2.1
  have hp3 := hpn.1.1
  have hrg : ∀ k, 0 ≤ cyc (pp i) (pn i) (fun j => rowAt (ar (1, a)) (c a) j % pp i) (fun j => rowAt (ar (1, b_)) (c b_) j % pp i) k ∧ cyc (pp i) (pn i) (fun j => rowAt (ar (1, a)) (c a) j % pp i) (fun j => rowAt (ar (1, b_)) (c b_) j % pp i) k < pp i := fun k => z_rem (by omega)
  refine ⟨_, _, [0, 1, 2], [(0, t), (1, t), (9, 0), (10, 0), (11, 0)], [(4, 0), (5, 0), (6, 0), (7, 0), (2, i), (3, i), (0, a), (1, a), (0, b_), (1, b_)], _, _, _, c_X5_convolve_D l D cI cW cP (ad (4, 0)) (ad (5, 0)) (ad (6, 0)) np (ad (7, 0)) (ad (8, 0)) (ad (9, 0)) (ad (10, 0)) (zRg ad) pg (ad (11, 0)) (ad (12, 0)) (ad (13, 0)) (ad (14, 0)) (ad (15, 0)) i a b_ t (ad (2, i)) (pp i) (pn i) (ad (3, i)) (ar (3, i)) (ad (0, a)) (ad (1, a)) (c a) (ar (1, a)) (ad (0, b_)) (ad (1, b_)) (c b_) (ar (1, b_)) (ad (0, t)) (ad (1, t)) (c t) (ar (1, t)) (ar (9, 0)) (ar (10, 0)) (ar (11, 0)) ⟨hi.1, hi.2, hnp.2⟩ (hpl i hi).2.2 ha (zRg_at ha) hb_ (zRg_at hb_) ht (zRg_at ht) (hpl i hi).1 (hpl i hi).2.1 (hcr a ha) (hcr b_ hb_) (hgr a ha) (hgr b_ hb_) hfa hfb, rfl, List.forall_mem_cons.mpr ⟨zK0 ht, List.forall_mem_cons.mpr ⟨zK1 ht, List.forall_mem_cons.mpr ⟨zKf 9 rfl rfl, List.forall_mem_cons.mpr ⟨zKf 10 rfl rfl, List.forall_mem_cons.mpr ⟨zKf 11 rfl rfl, fun _ h => absurd h List.not_mem_nil⟩⟩⟩⟩⟩, List.forall_mem_cons.mpr ⟨zKf 4 rfl rfl, List.forall_mem_cons.mpr ⟨zKf 5 rfl rfl, List.forall_mem_cons.mpr ⟨zKf 6 rfl rfl, List.forall_mem_cons.mpr ⟨zKf 7 rfl rfl, List.forall_mem_cons.mpr ⟨zK2 hi, List.forall_mem_cons.mpr ⟨zK3 hi, List.forall_mem_cons.mpr ⟨zK0 ha, List.forall_mem_cons.mpr ⟨zK1 ha, List.forall_mem_cons.mpr ⟨zK0 hb_, List.forall_mem_cons.mpr ⟨zK1 hb_, fun _ h => absurd h List.not_mem_nil⟩⟩⟩⟩⟩⟩⟩⟩⟩⟩, by simp, by simp [hat, hbt], fun u hu => ?_⟩
  obtain ⟨a2, gl2, gr2, gm2⟩ := u
  replace hu : ∀ k, 0 ≤ k → k < pn i → a2 k = cyc (pp i) (pn i) (fun j => rowAt (ar (1, a)) (c a) j % pp i) (fun j => rowAt (ar (1, b_)) (c b_) j % pp i) k := hu
  have h1a : (zUA (zUA (zUA (zUA ar (1, t) a2) (9, 0) gl2) (10, 0) gr2) (11, 0) gm2) (1, t) = a2 := by simp [zUA]
  refine ⟨pn i, (zUA (zUA (zUA (zUA ar (1, t) a2) (9, 0) gl2) (10, 0) gr2) (11, 0) gm2), (zU c t (pn i)), rfl, by simp [zY, zUA, zU_s], fun k hk => by simp only [List.mem_cons, List.not_mem_nil, or_false, not_or] at hk; exact zY_ext (by simp [zUA, hk]) (fun h0 => zU_n _ _ (fun h1 => hk.1 (Prod.ext h0 h1))), zYI_up hI (by omega) (fun k h1 h2 => by rw [h1a, hu k h1 h2]; have := hrg k; omega) (fun r hr => by simp [zUA, hr]) (fun i => by simp [zUA]), rfl, zU_s _ _ _, zG_t (by rw [h1a]; exact rowAt_ext (fun k h1 h2 => hu k h1 h2)), fun r hr => ⟨zU_n _ _ hr, zG_o hr (by simp [zUA, hr])⟩⟩

set_option maxHeartbeats 1000000 in
theorem y_filter (hE : yE ad np b L) (c : Int → Int) (G : Int → Int → Int) (a b_ t bl sv : Int) (ha : 0 ≤ a ∧ a < 4) (hb_ : 0 ≤ b_ ∧ b_ < 4) (ht : 0 ≤ t ∧ t < 4) (hat : a ≠ t) (hbt : b_ ≠ t) (hca : 1 ≤ c a) (hcb : 1 ≤ c b_) (hwa : ∀ k, -99 ≤ G a k ∧ G a k ≤ 99) (hwb : ∀ k, -99 ≤ G b_ k ∧ G b_ k ≤ 99) (hbl : 1 ≤ bl ∧ bl ≤ 32) (htt : c a + c b_ ≤ 65) (hsv : 0 ≤ sv ∧ sv ≤ 1) : yC l yX5_filter wsX5_filter ({ frames := 3, cells := 0, slots := 0, locals := 76 } : Room) D cI cW cP ad np pp pn pg b L xs c G [.ref (ad (4, 0)), .int (zI a), .int (zI b_), .int (zI t), .int (zI bl), .int (zI sv)] (fun v c' G' => c a + c b_ - 1 = v ∧ c' t = c a + c b_ - 1 ∧ G' t = rowAt (lin (G a) (c a) (G b_) (c b_)) (c a + c b_ - 1) ∧ ∀ r, r ≠ t → c' r = c r ∧ G' r = G r) := by
  refine yc_lift hE rfl rfl (fun ar hI hG => ?_)
  subst hG
  obtain ⟨hnp, hcr, hgr, hpl⟩ := id hI
  have hx1 := hcr a ha
  have hx2 := hcr b_ hb_
  have hrg : ∀ k, -(c a * (99 * 99)) ≤ lin (ar (1, a)) (c a) (ar (1, b_)) (c b_) k ∧ lin (ar (1, a)) (c a) (ar (1, b_)) (c b_) k ≤ c a * (99 * 99) := fun k => lin_rng hx1.1 (by decide) (rowAt_all hwa) (rowAt_all hwb)
  refine ⟨_, _, [0, 1, 2], [(0, t), (1, t), (16, 0), (17, 0)], [(4, 0), (5, 0), (8, 0), (0, a), (1, a), (0, b_), (1, b_)], _, _, _, c_X5_filter_D l D cI cW cP (ad (4, 0)) (ad (5, 0)) (ad (6, 0)) np (ad (7, 0)) (ad (8, 0)) (ad (9, 0)) (ad (10, 0)) (zRg ad) (ad (16, 0)) (ad (17, 0)) a b_ t bl sv (ad (0, a)) (ad (1, a)) (c a) (ar (1, a)) (ad (0, b_)) (ad (1, b_)) (c b_) (ar (1, b_)) (ad (0, t)) (ad (1, t)) (c t) (ar (1, t)) (ar (16, 0)) (ar (17, 0)) ha (zRg_at ha) hb_ (zRg_at hb_) ht (zRg_at ht) ⟨hca, (hcr a ha).2⟩ ⟨hcb, (hcr b_ hb_).2⟩ (rowAt_all hwa) (rowAt_all hwb) hbl htt hsv, rfl, List.forall_mem_cons.mpr ⟨zK0 ht, List.forall_mem_cons.mpr ⟨zK1 ht, List.forall_mem_cons.mpr ⟨zKf 16 rfl rfl, List.forall_mem_cons.mpr ⟨zKf 17 rfl rfl, fun _ h => absurd h List.not_mem_nil⟩⟩⟩⟩, List.forall_mem_cons.mpr ⟨zKf 4 rfl rfl, List.forall_mem_cons.mpr ⟨zKf 5 rfl rfl, List.forall_mem_cons.mpr ⟨zKf 8 rfl rfl, List.forall_mem_cons.mpr ⟨zK0 ha, List.forall_mem_cons.mpr ⟨zK1 ha, List.forall_mem_cons.mpr ⟨zK0 hb_, List.forall_mem_cons.mpr ⟨zK1 hb_, fun _ h => absurd h List.not_mem_nil⟩⟩⟩⟩⟩⟩⟩, by simp, by simp [hat, hbt], fun u hu => ?_⟩
  obtain ⟨a2, r2, w2⟩ := u
  replace hu : ∀ k, 0 ≤ k → k < c a + c b_ - 1 → a2 k = lin (ar (1, a)) (c a) (ar (1, b_)) (c b_) k := hu
  have h1a : (zUA (zUA (zUA ar (1, t) a2) (16, 0) r2) (17, 0) w2) (1, t) = a2 := by simp [zUA]
  refine ⟨c a + c b_ - 1, (zUA (zUA (zUA ar (1, t) a2) (16, 0) r2) (17, 0) w2), (zU c t (c a + c b_ - 1)), rfl, by simp [zY, zUA, zU_s], fun k hk => by simp only [List.mem_cons, List.not_mem_nil, or_false, not_or] at hk; exact zY_ext (by simp [zUA, hk]) (fun h0 => zU_n _ _ (fun h1 => hk.1 (Prod.ext h0 h1))), zYI_up hI (by omega) (fun k h1 h2 => by rw [h1a, hu k h1 h2]; have := hrg k; omega) (fun r hr => by simp [zUA, hr]) (fun i => by simp [zUA]), rfl, zU_s _ _ _, zG_t (by rw [h1a]; exact rowAt_ext (fun k h1 h2 => by rw [hu k h1 h2]; exact lin_G.symm)), fun r hr => ⟨zU_n _ _ hr, zG_o hr (by simp [zUA, hr])⟩⟩

set_option maxHeartbeats 1000000 in
theorem y_multiply (hE : yE ad np b L) (c : Int → Int) (G : Int → Int → Int) (a b_ t : Int) (ha : 0 ≤ a ∧ a < 4) (hb_ : 0 ≤ b_ ∧ b_ < 4) (ht : 0 ≤ t ∧ t < 4) (hat : a ≠ t) (hbt : b_ ≠ t) (hca : 1 ≤ c a) (hcb : 1 ≤ c b_) (hwa : ∀ k, 0 ≤ G a k ∧ G a k ≤ 9) (hwb : ∀ k, 0 ≤ G b_ k ∧ G b_ k ≤ 9) (htt : c a + c b_ ≤ 64) : yC l yX5_multiply wsX5_multiply ({ frames := 3, cells := 0, slots := 0, locals := 72 } : Room) D cI cW cP ad np pp pn pg b L xs c G [.ref (ad (4, 0)), .int (zI a), .int (zI b_), .int (zI t)] (fun v c' G' => ndI (lin (G a) (c a) (G b_) (c b_)) (c a + c b_) = v ∧ c' t = ndI (lin (G a) (c a) (G b_) (c b_)) (c a + c b_) ∧ G' t = rowAt (dgI (lin (G a) (c a) (G b_) (c b_))) (ndI (lin (G a) (c a) (G b_) (c b_)) (c a + c b_)) ∧ ∀ r, r ≠ t → c' r = c r ∧ G' r = G r) := by
  refine yc_lift hE rfl rfl (fun ar hI hG => ?_)
  subst hG
  obtain ⟨hnp, hcr, hgr, hpl⟩ := id hI
  have hx1 := hcr a ha
  have hx2 := hcr b_ hb_
  have hLe : lin (zG ar c a) (c a) (zG ar c b_) (c b_) = (lin (ar (1, a)) (c a) (ar (1, b_)) (c b_)) := funext (fun k => lin_G)
  have hnd := ndI_rng (L := (lin (ar (1, a)) (c a) (ar (1, b_)) (c b_))) (c a + c b_) (by omega)
  refine ⟨_, _, [0, 1, 2], [(0, t), (1, t), (16, 0)], [(4, 0), (5, 0), (8, 0), (0, a), (1, a), (0, b_), (1, b_)], _, _, _, c_X5_multiply_D l D cI cW cP (ad (4, 0)) (ad (5, 0)) (ad (6, 0)) np (ad (7, 0)) (ad (8, 0)) (ad (9, 0)) (ad (10, 0)) (zRg ad) (ad (16, 0)) (ad (17, 0)) a b_ t (ad (0, a)) (ad (1, a)) (c a) (ar (1, a)) (ad (0, b_)) (ad (1, b_)) (c b_) (ar (1, b_)) (ad (0, t)) (ad (1, t)) (c t) (ar (1, t)) (ar (16, 0)) ha (zRg_at ha) hb_ (zRg_at hb_) ht (zRg_at ht) ⟨hca, (hcr a ha).2⟩ ⟨hcb, (hcr b_ hb_).2⟩ (rowAt_all hwa) (rowAt_all hwb) htt, rfl, List.forall_mem_cons.mpr ⟨zK0 ht, List.forall_mem_cons.mpr ⟨zK1 ht, List.forall_mem_cons.mpr ⟨zKf 16 rfl rfl, fun _ h => absurd h List.not_mem_nil⟩⟩⟩, List.forall_mem_cons.mpr ⟨zKf 4 rfl rfl, List.forall_mem_cons.mpr ⟨zKf 5 rfl rfl, List.forall_mem_cons.mpr ⟨zKf 8 rfl rfl, List.forall_mem_cons.mpr ⟨zK0 ha, List.forall_mem_cons.mpr ⟨zK1 ha, List.forall_mem_cons.mpr ⟨zK0 hb_, List.forall_mem_cons.mpr ⟨zK1 hb_, fun _ h => absurd h List.not_mem_nil⟩⟩⟩⟩⟩⟩⟩, by simp, by simp [hat, hbt], fun u hu => ?_⟩
  obtain ⟨a2, r2⟩ := u
  replace hu : ∀ k, 0 ≤ k → k < ndI (lin (ar (1, a)) (c a) (ar (1, b_)) (c b_)) (c a + c b_) → a2 k = dgI (lin (ar (1, a)) (c a) (ar (1, b_)) (c b_)) k := hu
  have h1a : (zUA (zUA ar (1, t) a2) (16, 0) r2) (1, t) = a2 := by simp [zUA]
  refine ⟨ndI (lin (ar (1, a)) (c a) (ar (1, b_)) (c b_)) (c a + c b_), (zUA (zUA ar (1, t) a2) (16, 0) r2), (zU c t (ndI (lin (ar (1, a)) (c a) (ar (1, b_)) (c b_)) (c a + c b_))), rfl, by simp [zY, zUA, zU_s], fun k hk => by simp only [List.mem_cons, List.not_mem_nil, or_false, not_or] at hk; exact zY_ext (by simp [zUA, hk]) (fun h0 => zU_n _ _ (fun h1 => hk.1 (Prod.ext h0 h1))), zYI_up hI (by omega) (fun k h1 h2 => by rw [h1a, hu k h1 h2]; have q : 0 ≤ dgI (lin (ar (1, a)) (c a) (ar (1, b_)) (c b_)) k ∧ dgI (lin (ar (1, a)) (c a) (ar (1, b_)) (c b_)) k < 10 := z_rem (by decide); omega) (fun r hr => by simp [zUA, hr]) (fun i => by simp [zUA]), by rw [hLe], by rw [hLe]; exact zU_s _ _ _, by rw [hLe]; exact zG_t (by rw [h1a]; exact rowAt_ext hu), fun r hr => ⟨zU_n _ _ hr, zG_o hr (by simp [zUA, hr])⟩⟩
end YM
