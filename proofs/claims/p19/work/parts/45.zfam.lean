section ZF
/-- worlds as families: cells by keys -/
abbrev zk : Type := Nat × Int
def zFP (D : va_G) (K : zk → Prop) (W : zk → Nat × va_E) (H : Heap) : Prop := ∀ k, K k → va_at D vwCl (W k) H
def zIn (K : zk → Prop) (W : zk → Nat × va_E) : Prop := ∀ i j, K i → K j → (W i).1 = (W j).1 → i = j
def zFr (K : zk → Prop) (W : zk → Nat × va_E) (sz : Nat) : Nat → Prop := fun q => (∃ k, K k ∧ q = (W k).1) ∨ sz ≤ q
theorem zf_at {ks : List zk} {W : zk → Nat × va_E} {wc : va_W} (e : ks.map W = wc) {j : Nat} {q : Nat × va_E} (hq : wc[j]? = some q) : ∃ k, ks[j]? = some k ∧ W k = q := by
  subst e
  rw [List.getElem?_map] at hq
  cases hj : ks[j]? with
  | none => rw [hj] at hq; cases hq
  | some k => rw [hj] at hq; exact ⟨k, rfl, Option.some.inj hq⟩
theorem zf_sub {D : va_G} {K : zk → Prop} {W : zk → Nat × va_E} {H : Heap} (h : zFP D K W H) (ks : List zk) (hk : ∀ k ∈ ks, K k) {wc : va_W} (e : ks.map W = wc) : va_P D vwCl wc H := fun j q hq => by
  obtain ⟨k, h1, h2⟩ := zf_at e hq
  rw [← h2]
  exact h k (hk k (List.mem_of_getElem? h1))
theorem zf_subD {K : zk → Prop} {W : zk → Nat × va_E} {A : Nat → Prop} (hI : zIn K W) (hA : ∀ k, K k → A (W k).1) (ks : List zk) (hk : ∀ k ∈ ks, K k) (hn : ks.Nodup) {wc : va_W} (e : ks.map W = wc) : va_D A wc := by
  refine ⟨fun i j p q hp hq hpq => ?_, fun j q hq => ?_⟩
  · obtain ⟨k1, h1, h2⟩ := zf_at e hp
    obtain ⟨k2, h3, h4⟩ := zf_at e hq
    have h5 := hI k1 k2 (hk _ (List.mem_of_getElem? h1)) (hk _ (List.mem_of_getElem? h3)) (by rw [h2, h4]; exact hpq)
    subst h5
    exact (List.getElem?_inj (List.getElem?_eq_some_iff.mp h1).1 hn).mp (h1.trans h3.symm)
  · obtain ⟨k, h1, h2⟩ := zf_at e hq
    rw [← h2]
    exact hA k (hk k (List.mem_of_getElem? h1))
theorem zf_dis {K : zk → Prop} {W : zk → Nat × va_E} (hI : zIn K W) (kc kr : List zk) (hc : ∀ k ∈ kc, K k) (hr : ∀ k ∈ kr, K k) (hd : ∀ k ∈ kr, k ∉ kc) {wc rc : va_W} (ec : kc.map W = wc) (er : kr.map W = rc) : ∀ (i j : Nat) (x y : Nat × va_E), wc[i]? = some x → rc[j]? = some y → x.1 ≠ y.1 := by
  intro i j x y hx hy he
  obtain ⟨k1, h1, h2⟩ := zf_at ec hx
  obtain ⟨k2, h3, h4⟩ := zf_at er hy
  have h5 := hI k1 k2 (hc _ (List.mem_of_getElem? h1)) (hr _ (List.mem_of_getElem? h3)) (by rw [h2, h4]; exact he)
  subst h5
  exact hd _ (List.mem_of_getElem? h3) (List.mem_of_getElem? h1)
/-- behind a call that changes the cells kc of a family -/
theorem zf_frame {D : va_G} {K K2 : zk → Prop} {W W2 : zk → Nat × va_E} {kc kn : List zk} {wc w1 : va_W} {H H1 : Heap} (hF : zFP D K W H) (hI : zIn K W) (hkc : ∀ k ∈ kc, K k) (ec : kc.map W = wc) (en : kn.map W2 = w1)
    (hK2 : ∀ k, K2 k → k ∈ kn ∨ (K k ∧ k ∉ kc ∧ W2 k = W k)) (hk : ∀ q : Nat, q < H.size → ¬ va_A wc H.size q → H1[q]? = H[q]?) (hP1 : va_P D vwCl w1 H1) (hD1 : va_D (va_A wc H.size) w1) :
    zFP D K2 W2 H1 ∧ zIn K2 W2 ∧ ∀ k, K2 k → zFr K W H.size (W2 k).1 := by
  have old : ∀ k, K k → k ∉ kc → (W k).1 < H.size ∧ ¬ va_A wc H.size (W k).1 := by
    intro k h1 h2
    have hl := (hF k h1).lt
    refine ⟨hl, fun h => ?_⟩
    rcases h with ⟨j, e, h⟩ | h
    · obtain ⟨k', h3, h4⟩ := zf_at ec h
      have h5 := hI k k' h1 (hkc _ (List.mem_of_getElem? h3)) (by rw [h4])
      subst h5
      exact h2 (List.mem_of_getElem? h3)
    · omega
  have new : ∀ k, k ∈ kn → ∃ j : Nat, w1[j]? = some (W2 k) ∧ kn[j]? = some k := by
    intro k h
    obtain ⟨j, hj⟩ := List.getElem?_of_mem h
    exact ⟨j, by rw [← en, List.getElem?_map, hj]; rfl, hj⟩
  refine ⟨fun k hk2 => ?_, fun i j hi hj hij => ?_, fun k hk2 => ?_⟩
  · rcases hK2 k hk2 with h | ⟨h1, h2, h3⟩
    · obtain ⟨j, h4, -⟩ := new k h
      exact hP1 j _ h4
    · rw [h3]
      exact (hF k h1).kept (hk _ (old k h1 h2).1 (old k h1 h2).2)
  · rcases hK2 i hi with h | ⟨h1, h2, h3⟩
    · obtain ⟨a, h4, h5⟩ := new i h
      rcases hK2 j hj with g | ⟨g1, g2, g3⟩
      · obtain ⟨b, g4, g5⟩ := new j g
        have h6 := hD1.1 a b _ _ h4 g4 hij
        subst h6
        exact Option.some.inj (h5.symm.trans g5)
      · have q := hD1.2 a _ h4
        rw [hij, g3] at q
        exact absurd q (old j g1 g2).2
    · rcases hK2 j hj with g | ⟨g1, g2, g3⟩
      · obtain ⟨b, g4, g5⟩ := new j g
        have q := hD1.2 b _ g4
        rw [← hij, h3] at q
        exact absurd q (old i h1 h2).2
      · rw [h3, g3] at hij
        exact hI i j h1 g1 hij
  · rcases hK2 k hk2 with h | ⟨h1, h2, h3⟩
    · obtain ⟨a, h4, h5⟩ := new k h
      rcases hD1.2 a _ h4 with ⟨b, e, g⟩ | g
      · obtain ⟨k', g1, g2⟩ := zf_at ec g
        exact Or.inl ⟨k', hkc _ (List.mem_of_getElem? g1), by rw [g2]⟩
      · exact Or.inr g
    · exact Or.inl ⟨k, h1, by rw [h3]⟩
end ZF
