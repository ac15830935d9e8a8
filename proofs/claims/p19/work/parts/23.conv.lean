set_option maxHeartbeats 4000000 in
set_option maxRecDepth 100000 in
theorem c_J7_fill (l : Launch) (D : va_G) (cI : ClassId) (h1 : Nat) (g : Int → Int) (x : Int) : zC l yJ7_fill_53178 wsJ7_fill_53178 ({ frames := 0, cells := 0, slots := 0, locals := 0 } : Room) D [(cI, .int)] [(h1, .inl (cI, 64, .inl (zA g)))] [] [.ref h1, .int (zI x)] (S := Int → Int) (fun g2 => ∀ k, 0 ≤ k → k < 64 → g2 k = x) (fun g2 => none) (fun g2 => [(h1, .inl (cI, 64, .inl (zA g2)))]) := by
  refine z_start (cc := cJ7_fill_53178) (maxL := 4) (ret := none) (own := RJ7) (by decide) rfl rfl (Nat.le_of_ble_eq_true rfl) [(0, .ref h1), (1, .int (zI x))] rfl ?_
  intro pp ee s mm below meth cc A H ls hx hb hr hml hts hown hlocks hin hK hA hP hD hS hR0 hR hl
  have CF : CallFix pp mm cc cJ7_fill_53178 4 s ([.ref h1, .int (zI x)] : List Value).toArray wsJ7_fill_53178 RJ7 := ⟨hx, hb, hml, hown, hts⟩
  refine z_iconst hx hb dJ7_fill_53178_0 ?_
  refine lv_istore_n (lv' := [(2, .int (zI 0)), (0, .ref h1), (1, .int (zI x))]) hx hb dJ7_fill_53178_1 rfl hl (by decide) rfl (fun ls hl => ?_)
  have hl := lv_sub hl [1, 2, 0] rfl
  have hl : lv_has ls 4 [(0, .ref h1), (1, .int (zI x)), (2, .int (zI 0))] := hl
  refine lv_aload_n hx hb dJ7_fill_53178_2 rfl (lv_at hl 0 rfl) ?_
  refine va_alen hx hb hK hP 0 0 rfl rfl (v := zI 64) (show Int32.ofNat 64 = zI 64 from by decide +kernel) dJ7_fill_53178_3 ?_
  refine lv_istore_n (lv' := [(3, .int (zI 64)), (0, .ref h1), (1, .int (zI x)), (2, .int (zI 0))]) hx hb dJ7_fill_53178_4 rfl hl (by decide) rfl (fun ls hl => ?_)
  have hl := lv_sub hl [1, 2, 3, 0] rfl
  have hl : lv_has ls 4 [(0, .ref h1), (1, .int (zI x)), (2, .int (zI 0)), (3, .int (zI 64))] := hl
  refine z_loop (σ := Int × (Int → Int)) (fun (i, g2) => (64 - i).toNat) (fun (i, g2) H locs ls => (0 ≤ i ∧ i ≤ 64) ∧ (∀ k, 0 ≤ k → k < i → g2 k = x) ∧ va_P D vwCl [(h1, .inl (cI, 64, .inl (zA g2)))] H ∧ va_D A [(h1, .inl (cI, 64, .inl (zA g2)))] ∧ va_S A s.heap H locs ∧ lv_has ls 4 [(0, .ref h1), (1, .int (zI x)), (2, .int (zI i)), (3, .int (zI 64))]) (0, g) ⟨(by omega), (fun k h1 h2 => absurd h2 (by omega)), hP, hD, hS, hl⟩ ?_
  intro ⟨i, g2⟩ H locs ls hI ih_5
  obtain ⟨hi, hf, hP, hD, hS, hl⟩ := hI
  refine lv_iload_n hx hb dJ7_fill_53178_5 rfl (lv_at hl 2 rfl) ?_
  refine lv_iload_n hx hb dJ7_fill_53178_6 rfl (lv_at hl 3 rfl) ?_
  refine z_icmp_ge (tgt := 20) hx hb dJ7_fill_53178_7 (by decide) (by omega) (fun c_7 => ?_) (fun c_7 => ?_)
  · exact z_vret hx hb hr hlocks g2 rfl (fun k h1 h2 => hf k h1 (by omega)) hP hD hS dJ7_fill_53178_20
  · refine lv_aload_n hx hb dJ7_fill_53178_10 rfl (lv_at hl 0 rfl) ?_
    refine lv_iload_n hx hb dJ7_fill_53178_11 rfl (lv_at hl 2 rfl) ?_
    refine lv_iload_n hx hb dJ7_fill_53178_12 rfl (lv_at hl 1 rfl) ?_
    refine z_iast (cA := cI) (n := 64) (g := g2) (i := i) (v := x) hx hb hK hP hD hS 0 0 rfl rfl rfl (by omega) dJ7_fill_53178_13 (fun H locs hP hD hS => ?_)
    have hP : va_P D vwCl [(h1, .inl (cI, 64, .inl (zA (zU g2 i x))))] H := hP
    have hD : va_D A [(h1, .inl (cI, 64, .inl (zA (zU g2 i x))))] := hD
    refine lv_iinc (v := zI (i + 1)) (lv' := [(2, .int (zI (i + 1))), (0, .ref h1), (1, .int (zI x)), (3, .int (zI 64))]) hx hb dJ7_fill_53178_14 hl (k := 2) rfl (zI_add _ _) (by decide) rfl (fun ls hl => ?_)
    have hl := lv_sub hl [1, 2, 0, 3] rfl
    have hl : lv_has ls 4 [(0, .ref h1), (1, .int (zI x)), (2, .int (zI (i + 1))), (3, .int (zI 64))] := hl
    refine lv_goto (tgt := 5) hx hb dJ7_fill_53178_17 (by decide) ?_
    exact ih_5 (i + 1, zU g2 i x) _ _ _ ⟨(by omega), (by exact zU_fill hf rfl), hP, hD, hS, hl⟩ (by show (64 - (i + 1)).toNat < (64 - i).toNat; omega)

set_option maxHeartbeats 4000000 in
set_option maxRecDepth 100000 in
theorem c_X0_results (l : Launch) (D : va_G) (h0 : Nat) (hr_ : Nat) (hwn : Nat) : zF l yX0_results wsX0_results ({ frames := 0, cells := 0, slots := 0, locals := 0 } : Room) D [] [(h0, .inr (0, [.ref hr_, .ref hwn]))] [.ref h0] (some (.ref hr_)) := by
  refine z_start (cc := cX0_results) (maxL := 1) (ret := (some (.array .int))) (own := RX0) (by decide) rfl rfl (Nat.le_of_ble_eq_true rfl) [(0, .ref h0)] rfl ?_
  intro pp ee s mm below meth cc A H ls hx hb hr hml hts hown hlocks hin hK hA hP hD hS hR0 hR hl
  have CF : CallFix pp mm cc cX0_results 1 s ([.ref h0] : List Value).toArray wsX0_results RX0 := ⟨hx, hb, hml, hown, hts⟩
  have hi0 : ∀ w ∈ wsX00, w ∈ wsX0_results := by decide +kernel
  refine lv_aload_n hx hb dX0_results_0 rfl (lv_at hl 0 rfl) ?_
  refine va_get (D := D) (ci := 0) (C := RX0) (T := TX0) (N := 2) hx hb hts hi0 hown hK hR 0 rfl rfl 0 (by decide) (hts (.fieldLink RX0 9 "ButterflyYard$Convolver" "results" "[I") (by decide +kernel)) (fun _ h9 => h9) rfl dX0_results_1 ?_
  exact z_aret hx hb hr (Or.inr ⟨_, rfl⟩) hlocks (Or.inr ⟨_, rfl⟩) () (rfl) (trivial) z_nilP z_nilD hS dX0_results_4

set_option maxHeartbeats 4000000 in
set_option maxRecDepth 100000 in
theorem c_X0_cyclicEntry (l : Launch) (D : va_G) (cI : ClassId) (h1 : Nat) (h2 : Nat) (n2 : Nat) (a : Int → Int) (b : Int → Int) (sz : Int) (k : Int) (hn2 : Nat.ble n2 2147483647 = true) (hsz : 1 ≤ sz ∧ sz ≤ 64 ∧ sz ≤ (n2 : Int)) (hk : 0 ≤ k ∧ k < sz) (har : ∀ j, 0 ≤ j → j < sz → -2147483648 ≤ a j ∧ a j ≤ 2147483647) (hbr : ∀ j, 0 ≤ j → j < sz → -2147483648 ≤ b j ∧ b j ≤ 2147483647) : zF l yX0_cyclicEntry wsX0_cyclicEntry ({ frames := 0, cells := 0, slots := 0, locals := 0 } : Room) D [(cI, .int)] [(h1, .inl (cI, 64, .inl (zA a))), (h2, .inl (cI, n2, .inl (zA b)))] [.ref h1, .ref h2, .int (zI sz), .int (zI k)] (some (.long (zL (zT (fun j => a j * b (if j ≤ k then k - j else k - j + sz)) sz)))) := by
  refine z_start (cc := cX0_cyclicEntry) (maxL := 8) (ret := (some .long)) (own := RX0) (by decide) rfl rfl (Nat.le_of_ble_eq_true rfl) [(0, .ref h1), (1, .ref h2), (2, .int (zI sz)), (3, .int (zI k))] rfl ?_
  intro pp ee s mm below meth cc A H ls hx hb hr hml hts hown hlocks hin hK hA hP hD hS hR0 hR hl
  have CF : CallFix pp mm cc cX0_cyclicEntry 8 s ([.ref h1, .ref h2, .int (zI sz), .int (zI k)] : List Value).toArray wsX0_cyclicEntry RX0 := ⟨hx, hb, hml, hown, hts⟩
  refine z_lconst0 hx hb dX0_cyclicEntry_0 ?_
  refine lv_lstore (lv' := [(4, .long (zL 0)), (0, .ref h1), (1, .ref h2), (2, .int (zI sz)), (3, .int (zI k))]) hx hb dX0_cyclicEntry_1 hl (by decide) rfl (fun ls hl => ?_)
  have hl := lv_sub hl [1, 2, 3, 4, 0] rfl
  have hl : lv_has ls 8 [(0, .ref h1), (1, .ref h2), (2, .int (zI sz)), (3, .int (zI k)), (4, .long (zL 0))] := hl
  refine z_iconst hx hb dX0_cyclicEntry_3 ?_
  refine lv_istore (lv' := [(6, .int (zI 0)), (0, .ref h1), (1, .ref h2), (2, .int (zI sz)), (3, .int (zI k)), (4, .long (zL 0))]) hx hb dX0_cyclicEntry_4 hl (by decide) rfl (fun ls hl => ?_)
  have hl := lv_sub hl [1, 2, 3, 4, 5, 0] rfl
  have hl : lv_has ls 8 [(0, .ref h1), (1, .ref h2), (2, .int (zI sz)), (3, .int (zI k)), (4, .long (zL 0)), (6, .int (zI 0))] := hl
  refine z_loop (σ := Int × Int) (fun (t, i) => (sz - i).toNat) (fun (t, i) H locs ls => (0 ≤ i ∧ i ≤ sz) ∧ t = zT (fun j => a j * b (if j ≤ k then k - j else k - j + sz)) i ∧ va_S A s.heap H locs ∧ lv_has ls 8 [(0, .ref h1), (1, .ref h2), (2, .int (zI sz)), (3, .int (zI k)), (4, .long (zL t)), (6, .int (zI i))]) (0, 0) ⟨(by omega), (by rfl), hS, hl⟩ ?_
  intro ⟨t, i⟩ H locs ls hI ih_6
  obtain ⟨hi, hf, hS, hl⟩ := hI
  have hR := hR0.at hS
  refine lv_iload hx hb dX0_cyclicEntry_6 (lv_at hl 5 rfl) ?_
  refine lv_iload_n hx hb dX0_cyclicEntry_8 rfl (lv_at hl 2 rfl) ?_
  refine z_icmp_ge (tgt := 55) hx hb dX0_cyclicEntry_9 (by decide) (by omega) (fun c_9 => ?_) (fun c_9 => ?_)
  · refine lv_lload hx hb dX0_cyclicEntry_55 (lv_at hl 4 rfl) ?_
    have hres : zT (fun j => a j * b (if j ≤ k then k - j else k - j + sz)) sz = t := by rw [hf, show i = sz by omega]
    exact z_lret hx hb hr hlocks () (congrArg (fun z => some (Value.long (zL z))) hres) (trivial) z_nilP z_nilD hS dX0_cyclicEntry_57
  · refine lv_iload hx hb dX0_cyclicEntry_12 (lv_at hl 5 rfl) ?_
    refine lv_iload_n hx hb dX0_cyclicEntry_14 rfl (lv_at hl 3 rfl) ?_
    refine z_icmp_gt (tgt := 25) hx hb dX0_cyclicEntry_15 (by decide) (by omega) (fun c_15 => ?_) (fun c_15 => ?_)
    · refine lv_iload_n hx hb dX0_cyclicEntry_25 rfl (lv_at hl 3 rfl) ?_
      refine lv_iload hx hb dX0_cyclicEntry_26 (lv_at hl 5 rfl) ?_
      refine z_isub hx hb dX0_cyclicEntry_28 ?_
      refine lv_iload_n hx hb dX0_cyclicEntry_29 rfl (lv_at hl 2 rfl) ?_
      refine z_iadd hx hb dX0_cyclicEntry_30 ?_
      refine lv_istore (lv' := [(7, .int (zI ((k - i) + sz))), (0, .ref h1), (1, .ref h2), (2, .int (zI sz)), (3, .int (zI k)), (4, .long (zL t)), (6, .int (zI i))]) hx hb dX0_cyclicEntry_31 hl (by decide) rfl (fun ls hl => ?_)
      have hl := lv_sub hl [1, 2, 3, 4, 5, 6, 0] rfl
      have hl : lv_has ls 8 [(0, .ref h1), (1, .ref h2), (2, .int (zI sz)), (3, .int (zI k)), (4, .long (zL t)), (6, .int (zI i)), (7, .int (zI ((k - i) + sz)))] := hl
      refine lv_lload hx hb dX0_cyclicEntry_33 (lv_at hl 4 rfl) ?_
      refine lv_aload_n hx hb dX0_cyclicEntry_35 rfl (lv_at hl 0 rfl) ?_
      refine lv_iload hx hb dX0_cyclicEntry_36 (lv_at hl 5 rfl) ?_
      refine z_iald (cA := cI) (n := 64) (g := a) hx hb hK hR 0 0 rfl rfl rfl (by omega) dX0_cyclicEntry_38 ?_
      have hai := har i (by omega) (by omega)
      refine z_i2l hx hb dX0_cyclicEntry_39 (by omega) ?_
      refine lv_aload_n hx hb dX0_cyclicEntry_40 rfl (lv_at hl 1 rfl) ?_
      refine lv_iload hx hb dX0_cyclicEntry_41 (lv_at hl 6 rfl) ?_
      refine z_iald (cA := cI) (n := n2) (g := b) hx hb hK hR 1 0 rfl rfl hn2 (by omega) dX0_cyclicEntry_43 ?_
      have hbi := hbr ((k - i) + sz) (by omega) (by omega)
      refine z_i2l hx hb dX0_cyclicEntry_44 (by omega) ?_
      refine z_lmul hx hb dX0_cyclicEntry_45 ?_
      refine z_ladd hx hb dX0_cyclicEntry_46 ?_
      refine lv_lstore (lv' := [(4, .long (zL (t + ((a i) * (b ((k - i) + sz)))))), (0, .ref h1), (1, .ref h2), (2, .int (zI sz)), (3, .int (zI k)), (6, .int (zI i)), (7, .int (zI ((k - i) + sz)))]) hx hb dX0_cyclicEntry_47 hl (by decide) rfl (fun ls hl => ?_)
      have hl := lv_sub hl [1, 2, 3, 4, 0, 5, 6] rfl
      have hl : lv_has ls 8 [(0, .ref h1), (1, .ref h2), (2, .int (zI sz)), (3, .int (zI k)), (4, .long (zL (t + ((a i) * (b ((k - i) + sz)))))), (6, .int (zI i)), (7, .int (zI ((k - i) + sz)))] := hl
      refine lv_iinc (v := zI (i + 1)) (lv' := [(6, .int (zI (i + 1))), (0, .ref h1), (1, .ref h2), (2, .int (zI sz)), (3, .int (zI k)), (4, .long (zL (t + ((a i) * (b ((k - i) + sz)))))), (7, .int (zI ((k - i) + sz)))]) hx hb dX0_cyclicEntry_49 hl (k := 5) rfl (zI_add _ _) (by decide) rfl (fun ls hl => ?_)
      have hl := lv_sub hl [1, 2, 3, 4, 5, 0, 6] rfl
      have hl : lv_has ls 8 [(0, .ref h1), (1, .ref h2), (2, .int (zI sz)), (3, .int (zI k)), (4, .long (zL (t + ((a i) * (b ((k - i) + sz)))))), (6, .int (zI (i + 1))), (7, .int (zI ((k - i) + sz)))] := hl
      refine lv_goto (tgt := 6) hx hb dX0_cyclicEntry_52 (by decide) ?_
      exact ih_6 (t + ((a i) * (b ((k - i) + sz))), i + 1) _ _ _ ⟨(by omega), (by rw [hf, zT_s _ hi.1]; first | rw [if_pos c_15] | rw [if_neg (by omega)]), hS, lv_sub hl [0, 1, 2, 3, 4, 5] rfl⟩ (by show (sz - (i + 1)).toNat < (sz - i).toNat; omega)
    · refine lv_iload_n hx hb dX0_cyclicEntry_18 rfl (lv_at hl 3 rfl) ?_
      refine lv_iload hx hb dX0_cyclicEntry_19 (lv_at hl 5 rfl) ?_
      refine z_isub hx hb dX0_cyclicEntry_21 ?_
      refine lv_goto (tgt := 31) hx hb dX0_cyclicEntry_22 (by decide) ?_
      refine lv_istore (lv' := [(7, .int (zI (k - i))), (0, .ref h1), (1, .ref h2), (2, .int (zI sz)), (3, .int (zI k)), (4, .long (zL t)), (6, .int (zI i))]) hx hb dX0_cyclicEntry_31 hl (by decide) rfl (fun ls hl => ?_)
      have hl := lv_sub hl [1, 2, 3, 4, 5, 6, 0] rfl
      have hl : lv_has ls 8 [(0, .ref h1), (1, .ref h2), (2, .int (zI sz)), (3, .int (zI k)), (4, .long (zL t)), (6, .int (zI i)), (7, .int (zI (k - i)))] := hl
      refine lv_lload hx hb dX0_cyclicEntry_33 (lv_at hl 4 rfl) ?_
      refine lv_aload_n hx hb dX0_cyclicEntry_35 rfl (lv_at hl 0 rfl) ?_
      refine lv_iload hx hb dX0_cyclicEntry_36 (lv_at hl 5 rfl) ?_
      refine z_iald (cA := cI) (n := 64) (g := a) hx hb hK hR 0 0 rfl rfl rfl (by omega) dX0_cyclicEntry_38 ?_
      have hai := har i (by omega) (by omega)
      refine z_i2l hx hb dX0_cyclicEntry_39 (by omega) ?_
      refine lv_aload_n hx hb dX0_cyclicEntry_40 rfl (lv_at hl 1 rfl) ?_
      refine lv_iload hx hb dX0_cyclicEntry_41 (lv_at hl 6 rfl) ?_
      refine z_iald (cA := cI) (n := n2) (g := b) hx hb hK hR 1 0 rfl rfl hn2 (by omega) dX0_cyclicEntry_43 ?_
      have hbi := hbr (k - i) (by omega) (by omega)
      refine z_i2l hx hb dX0_cyclicEntry_44 (by omega) ?_
      refine z_lmul hx hb dX0_cyclicEntry_45 ?_
      refine z_ladd hx hb dX0_cyclicEntry_46 ?_
      refine lv_lstore (lv' := [(4, .long (zL (t + ((a i) * (b (k - i)))))), (0, .ref h1), (1, .ref h2), (2, .int (zI sz)), (3, .int (zI k)), (6, .int (zI i)), (7, .int (zI (k - i)))]) hx hb dX0_cyclicEntry_47 hl (by decide) rfl (fun ls hl => ?_)
      have hl := lv_sub hl [1, 2, 3, 4, 0, 5, 6] rfl
      have hl : lv_has ls 8 [(0, .ref h1), (1, .ref h2), (2, .int (zI sz)), (3, .int (zI k)), (4, .long (zL (t + ((a i) * (b (k - i)))))), (6, .int (zI i)), (7, .int (zI (k - i)))] := hl
      refine lv_iinc (v := zI (i + 1)) (lv' := [(6, .int (zI (i + 1))), (0, .ref h1), (1, .ref h2), (2, .int (zI sz)), (3, .int (zI k)), (4, .long (zL (t + ((a i) * (b (k - i)))))), (7, .int (zI (k - i)))]) hx hb dX0_cyclicEntry_49 hl (k := 5) rfl (zI_add _ _) (by decide) rfl (fun ls hl => ?_)
      have hl := lv_sub hl [1, 2, 3, 4, 5, 0, 6] rfl
      have hl : lv_has ls 8 [(0, .ref h1), (1, .ref h2), (2, .int (zI sz)), (3, .int (zI k)), (4, .long (zL (t + ((a i) * (b (k - i)))))), (6, .int (zI (i + 1))), (7, .int (zI (k - i)))] := hl
      refine lv_goto (tgt := 6) hx hb dX0_cyclicEntry_52 (by decide) ?_
      exact ih_6 (t + ((a i) * (b (k - i))), i + 1) _ _ _ ⟨(by omega), (by rw [hf, zT_s _ hi.1]; first | rw [if_pos c_15] | rw [if_neg (by omega)]), hS, lv_sub hl [0, 1, 2, 3, 4, 5] rfl⟩ (by show (sz - (i + 1)).toNat < (sz - i).toNat; omega)

set_option maxHeartbeats 4000000 in
set_option maxRecDepth 100000 in
theorem c_X0_addProducts (l : Launch) (D : va_G) (cI : ClassId) (h0 : Nat) (hr_ : Nat) (hwn : Nat) (r : Int → Int) (h1 : Nat) (hs : Nat) (cs : Int) (a : Int → Int) (h2 : Nat) (hk : Nat) (ck : Int) (b : Int → Int) (lo : Int) (hi : Int) (hcs : 0 ≤ cs ∧ cs ≤ 64) (hck : 0 ≤ ck ∧ ck ≤ 64) (hlh : 0 ≤ lo ∧ lo ≤ hi ∧ hi ≤ cs) (htot : cs + ck ≤ 65) : zC l yX0_addProducts wsX0_addProducts ({ frames := 1, cells := 0, slots := 0, locals := 21 } : Room) D [(cI, .int)] [(hr_, .inl (cI, 64, .inl (zA r)))] [(h0, .inr (0, [.ref hr_, .ref hwn])), (h1, .inr (2, [.ref hs, .int (zI cs)])), (hs, .inl (cI, 64, .inl (zA a))), (h2, .inr (2, [.ref hk, .int (zI ck)])), (hk, .inl (cI, 64, .inl (zA b)))] [.ref h0, .ref h1, .int (zI lo), .int (zI hi), .ref h2] (S := Int → Int) (fun r2 => ∀ k, 0 ≤ k → k < 64 → r2 k = r k + (zT (fun j => rowAt a cs j * rowAt b ck (k - j)) hi - zT (fun j => rowAt a cs j * rowAt b ck (k - j)) lo)) (fun r2 => none) (fun r2 => [(hr_, .inl (cI, 64, .inl (zA r2)))]) := by
  refine z_start (cc := cX0_addProducts) (maxL := 7) (ret := none) (own := RX0) (by decide) rfl rfl (Nat.le_of_ble_eq_true rfl) [(0, .ref h0), (1, .ref h1), (2, .int (zI lo)), (3, .int (zI hi)), (4, .ref h2)] rfl ?_
  intro pp ee s mm below meth cc A H ls hx hb hr hml hts hown hlocks hin hK hA hP hD hS hR0 hR hl
  have CF : CallFix pp mm cc cX0_addProducts 7 s ([.ref h0, .ref h1, .int (zI lo), .int (zI hi), .ref h2] : List Value).toArray wsX0_addProducts RX0 := ⟨hx, hb, hml, hown, hts⟩
  have hi0 : ∀ w ∈ wsX00, w ∈ wsX0_addProducts := by decide +kernel
  refine lv_iload_n hx hb dX0_addProducts_0 rfl (lv_at hl 2 rfl) ?_
  refine lv_istore (lv' := [(5, .int (zI lo)), (0, .ref h0), (1, .ref h1), (2, .int (zI lo)), (3, .int (zI hi)), (4, .ref h2)]) hx hb dX0_addProducts_1 hl (by decide) rfl (fun ls hl => ?_)
  have hl := lv_sub hl [1, 2, 3, 4, 5, 0] rfl
  have hl : lv_has ls 7 [(0, .ref h0), (1, .ref h1), (2, .int (zI lo)), (3, .int (zI hi)), (4, .ref h2), (5, .int (zI lo))] := hl
  refine z_loop (σ := Int × (Int → Int)) (fun (j, r2) => (hi - j).toNat) (fun (j, r2) H locs ls => (lo ≤ j ∧ j ≤ hi) ∧ (∀ k, 0 ≤ k → k < 64 → r2 k = r k + (zT (fun j => rowAt a cs j * rowAt b ck (k - j)) j - zT (fun j => rowAt a cs j * rowAt b ck (k - j)) lo)) ∧ va_P D vwCl [(hr_, .inl (cI, 64, .inl (zA r2)))] H ∧ va_D A [(hr_, .inl (cI, 64, .inl (zA r2)))] ∧ va_S A s.heap H locs ∧ lv_has ls 7 [(0, .ref h0), (1, .ref h1), (2, .int (zI lo)), (3, .int (zI hi)), (4, .ref h2), (5, .int (zI j))]) (lo, r) ⟨(by omega), (fun k h1 h2 => by omega), hP, hD, hS, hl⟩ ?_
  intro ⟨j, r2⟩ H locs ls hI ih_3
  obtain ⟨hj, hf, hP, hD, hS, hl⟩ := hI
  have hR := hR0.at hS
  refine lv_iload hx hb dX0_addProducts_3 (lv_at hl 5 rfl) ?_
  refine lv_iload_n hx hb dX0_addProducts_5 rfl (lv_at hl 3 rfl) ?_
  refine z_icmp_ge (tgt := 61) hx hb dX0_addProducts_6 (by decide) (by omega) (fun c_6 => ?_) (fun c_6 => ?_)
  · exact z_vret hx hb hr hlocks r2 rfl (fun k h1 h2 => by rw [hf k h1 h2, show j = hi by omega]) hP hD hS dX0_addProducts_61
  · refine z_iconst hx hb dX0_addProducts_9 ?_
    refine lv_istore (lv' := [(6, .int (zI 0)), (0, .ref h0), (1, .ref h1), (2, .int (zI lo)), (3, .int (zI hi)), (4, .ref h2), (5, .int (zI j))]) hx hb dX0_addProducts_10 hl (by decide) rfl (fun ls hl => ?_)
    have hl := lv_sub hl [1, 2, 3, 4, 5, 6, 0] rfl
    have hl : lv_has ls 7 [(0, .ref h0), (1, .ref h1), (2, .int (zI lo)), (3, .int (zI hi)), (4, .ref h2), (5, .int (zI j)), (6, .int (zI 0))] := hl
    refine z_loop (σ := Int × (Int → Int)) (fun (i, r3) => (ck - i).toNat) (fun (i, r3) H locs ls => (0 ≤ i ∧ i ≤ ck) ∧ (∀ k, 0 ≤ k → k < 64 → r3 k = r k + (zT (fun j => rowAt a cs j * rowAt b ck (k - j)) j - zT (fun j => rowAt a cs j * rowAt b ck (k - j)) lo) + (if 0 ≤ k - j ∧ k - j < i then rowAt a cs j * rowAt b ck (k - j) else 0)) ∧ va_P D vwCl [(hr_, .inl (cI, 64, .inl (zA r3)))] H ∧ va_D A [(hr_, .inl (cI, 64, .inl (zA r3)))] ∧ va_S A s.heap H locs ∧ lv_has ls 7 [(0, .ref h0), (1, .ref h1), (2, .int (zI lo)), (3, .int (zI hi)), (4, .ref h2), (5, .int (zI j)), (6, .int (zI i))]) (0, r2) ⟨(by omega), (fun k h1 h2 => by rw [hf k h1 h2, if_neg (by omega)]; omega), hP, hD, hS, hl⟩ ?_
    intro ⟨i, r3⟩ H locs ls hI ih_12
    obtain ⟨hi_, hf2, hP, hD, hS, hl⟩ := hI
    have hR := hR0.at hS
    refine lv_iload hx hb dX0_addProducts_12 (lv_at hl 6 rfl) ?_
    refine lv_aload hx hb dX0_addProducts_14 (lv_at hl 4 rfl) ?_
    have hRc := z_subR (ws := [(hr_, .inl (cI, 64, .inl (zA r3)))]) (rs := [(h0, .inr (0, [.ref hr_, .ref hwn])), (h1, .inr (2, [.ref hs, .int (zI cs)])), (hs, .inl (cI, 64, .inl (zA a))), (h2, .inr (2, [.ref hk, .int (zI ck)])), (hk, .inl (cI, 64, .inl (zA b)))]) (rc := [(h2, .inr (2, [.ref hk, .int (zI ck)]))]) hP hR (isR := [4]) rfl
    refine z_ro (ws := [(hr_, .inl (cI, 64, .inl (zA r3)))]) (va_runV (As := []) (rest := [.int (zI i)]) CF (c_X3_count l D h2 hk ck H.size) (cwV 0 hts gX0_addProducts_X3_count rfl rfl rfl (by decide +kernel) ⟨Nat.le_of_ble_eq_true rfl, Nat.le_of_ble_eq_true rfl⟩) (z_preV (va_recv hK hR (ci := 2) (q0 := 3) rfl rfl) z_nilP (z_nilD (A := A)) hRc z_noX (hK.sub (tys' := []) [] rfl)) rfl rfl hl.1 rfl (lv_room (Nat.le_of_ble_eq_true rfl)) dX0_addProducts_16 ⟨Nat.le_of_ble_eq_true rfl, Nat.le_of_ble_eq_true rfl⟩) hP hS hA (cells' := 0) (slots' := 0) rfl rfl (fun H locs hP hS => ?_)
    have hR := hR0.at hS
    refine z_icmp_ge (tgt := 55) hx hb dX0_addProducts_19 (by decide) (by omega) (fun c_19 => ?_) (fun c_19 => ?_)
    · refine lv_iinc (v := zI (j + 1)) (lv' := [(5, .int (zI (j + 1))), (0, .ref h0), (1, .ref h1), (2, .int (zI lo)), (3, .int (zI hi)), (4, .ref h2), (6, .int (zI i))]) hx hb dX0_addProducts_55 hl (k := 5) rfl (zI_add _ _) (by decide) rfl (fun ls hl => ?_)
      have hl := lv_sub hl [1, 2, 3, 4, 5, 0, 6] rfl
      have hl : lv_has ls 7 [(0, .ref h0), (1, .ref h1), (2, .int (zI lo)), (3, .int (zI hi)), (4, .ref h2), (5, .int (zI (j + 1))), (6, .int (zI i))] := hl
      refine lv_goto (tgt := 3) hx hb dX0_addProducts_58 (by decide) ?_
      exact ih_3 (j + 1, r3) _ _ _ ⟨(by omega), (by exact fun k h1 h2 => by rw [hf2 k h1 h2, zT_s _ (by omega), show i = ck by omega]; split; omega; (rename_i q; rw [show rowAt b ck (k - j) = 0 from rowAt_out q]; omega)), hP, hD, hS, lv_sub hl [0, 1, 2, 3, 4, 5] rfl⟩ (by show (hi - (j + 1)).toNat < (hi - j).toNat; omega)
    · refine lv_aload_n hx hb dX0_addProducts_22 rfl (lv_at hl 0 rfl) ?_
      refine va_get (D := D) (ci := 0) (C := RX0) (T := TX0) (N := 2) hx hb hts hi0 hown hK hR 0 rfl rfl 0 (by decide) (hts (.fieldLink RX0 9 "ButterflyYard$Convolver" "results" "[I") (by decide +kernel)) (fun _ h9 => h9) rfl dX0_addProducts_23 ?_
      refine lv_iload hx hb dX0_addProducts_26 (lv_at hl 5 rfl) ?_
      refine lv_iload hx hb dX0_addProducts_28 (lv_at hl 6 rfl) ?_
      refine z_iadd hx hb dX0_addProducts_30 ?_
      refine lv_dup2_11 hx hb dX0_addProducts_31 rfl rfl ?_
      refine z_iald (cA := cI) (n := 64) (g := r3) hx hb hK hP 0 0 rfl rfl rfl (by omega) dX0_addProducts_32 ?_
      refine lv_aload_n hx hb dX0_addProducts_33 rfl (lv_at hl 1 rfl) ?_
      refine lv_iload hx hb dX0_addProducts_34 (lv_at hl 5 rfl) ?_
      have hRc := z_subR (ws := [(hr_, .inl (cI, 64, .inl (zA r3)))]) (rs := [(h0, .inr (0, [.ref hr_, .ref hwn])), (h1, .inr (2, [.ref hs, .int (zI cs)])), (hs, .inl (cI, 64, .inl (zA a))), (h2, .inr (2, [.ref hk, .int (zI ck)])), (hk, .inl (cI, 64, .inl (zA b)))]) (rc := [(h1, .inr (2, [.ref hs, .int (zI cs)])), (hs, .inl (cI, 64, .inl (zA a)))]) hP hR (isR := [2, 3]) rfl
      refine z_ro (ws := [(hr_, .inl (cI, 64, .inl (zA r3)))]) (va_runV (As := [.int (zI j)]) (rest := [.int (zI (r3 (j + i))), .int (zI (j + i)), .ref hr_]) CF (c_X3_entry l D cI h1 hs cs a j (by omega) (by omega) H.size) (cwV 1 hts gX0_addProducts_X3_entry rfl rfl rfl (by decide +kernel) ⟨Nat.le_of_ble_eq_true rfl, Nat.le_of_ble_eq_true rfl⟩) (z_preV (va_recv hK hR (ci := 2) (q0 := 1) rfl rfl) z_nilP (z_nilD (A := A)) hRc z_noX (hK.sub (tys' := [(cI, .int)]) [0] rfl)) rfl rfl hl.1 rfl (lv_room (Nat.le_of_ble_eq_true rfl)) dX0_addProducts_36 ⟨Nat.le_of_ble_eq_true rfl, Nat.le_of_ble_eq_true rfl⟩) hP hS hA (cells' := 0) (slots' := 0) rfl rfl (fun H locs hP hS => ?_)
      have hR := hR0.at hS
      refine lv_aload hx hb dX0_addProducts_39 (lv_at hl 4 rfl) ?_
      refine lv_iload hx hb dX0_addProducts_41 (lv_at hl 6 rfl) ?_
      have hRc := z_subR (ws := [(hr_, .inl (cI, 64, .inl (zA r3)))]) (rs := [(h0, .inr (0, [.ref hr_, .ref hwn])), (h1, .inr (2, [.ref hs, .int (zI cs)])), (hs, .inl (cI, 64, .inl (zA a))), (h2, .inr (2, [.ref hk, .int (zI ck)])), (hk, .inl (cI, 64, .inl (zA b)))]) (rc := [(h2, .inr (2, [.ref hk, .int (zI ck)])), (hk, .inl (cI, 64, .inl (zA b)))]) hP hR (isR := [4, 5]) rfl
      refine z_ro (ws := [(hr_, .inl (cI, 64, .inl (zA r3)))]) (va_runV (As := [.int (zI i)]) (rest := [.int (zI (rowAt a cs j)), .int (zI (r3 (j + i))), .int (zI (j + i)), .ref hr_]) CF (c_X3_entry l D cI h2 hk ck b i (by omega) (by omega) H.size) (cwV 1 hts gX0_addProducts_X3_entry rfl rfl rfl (by decide +kernel) ⟨Nat.le_of_ble_eq_true rfl, Nat.le_of_ble_eq_true rfl⟩) (z_preV (va_recv hK hR (ci := 2) (q0 := 3) rfl rfl) z_nilP (z_nilD (A := A)) hRc z_noX (hK.sub (tys' := [(cI, .int)]) [0] rfl)) rfl rfl hl.1 rfl (lv_room (Nat.le_of_ble_eq_true rfl)) dX0_addProducts_43 ⟨Nat.le_of_ble_eq_true rfl, Nat.le_of_ble_eq_true rfl⟩) hP hS hA (cells' := 0) (slots' := 0) rfl rfl (fun H locs hP hS => ?_)
      have hR := hR0.at hS
      refine z_imul hx hb dX0_addProducts_46 ?_
      refine z_iadd hx hb dX0_addProducts_47 ?_
      refine z_iast (cA := cI) (n := 64) (g := r3) (i := j + i) (v := (r3 (j + i)) + ((rowAt a cs j) * (rowAt b ck i))) hx hb hK hP hD hS 0 0 rfl rfl rfl (by omega) dX0_addProducts_48 (fun H locs hP hD hS => ?_)
      have hP : va_P D vwCl [(hr_, .inl (cI, 64, .inl (zA (zU r3 (j + i) ((r3 (j + i)) + ((rowAt a cs j) * (rowAt b ck i)))))))] H := hP
      have hD : va_D A [(hr_, .inl (cI, 64, .inl (zA (zU r3 (j + i) ((r3 (j + i)) + ((rowAt a cs j) * (rowAt b ck i)))))))] := hD
      have hR := hR0.at hS
      refine lv_iinc (v := zI (i + 1)) (lv' := [(6, .int (zI (i + 1))), (0, .ref h0), (1, .ref h1), (2, .int (zI lo)), (3, .int (zI hi)), (4, .ref h2), (5, .int (zI j))]) hx hb dX0_addProducts_49 hl (k := 6) rfl (zI_add _ _) (by decide) rfl (fun ls hl => ?_)
      have hl := lv_sub hl [1, 2, 3, 4, 5, 6, 0] rfl
      have hl : lv_has ls 7 [(0, .ref h0), (1, .ref h1), (2, .int (zI lo)), (3, .int (zI hi)), (4, .ref h2), (5, .int (zI j)), (6, .int (zI (i + 1)))] := hl
      refine lv_goto (tgt := 12) hx hb dX0_addProducts_52 (by decide) ?_
      exact ih_12 (i + 1, zU r3 (j + i) ((r3 (j + i)) + ((rowAt a cs j) * (rowAt b ck i)))) _ _ _ ⟨(by omega), (by exact fun k h1 h2 => by by_cases e : k = j + i; (subst e; rw [zU_s, hf2 (j + i) h1 h2, if_neg (by omega), if_pos (by omega), show j + i - j = i by omega]; omega); (rw [zU_n _ _ e, hf2 k h1 h2]; congr 1; by_cases q : 0 ≤ k - j ∧ k - j < i; rw [if_pos q, if_pos (by omega)]; rw [if_neg q, if_neg (by omega)])), hP, hD, hS, hl⟩ (by show (ck - (i + 1)).toNat < (ck - i).toNat; omega)

set_option maxHeartbeats 4000000 in
set_option maxRecDepth 100000 in
theorem c_X0_overlapAdd (l : Launch) (D : va_G) (cI : ClassId) (h0 : Nat) (hr_ : Nat) (hwn : Nat) (r : Int → Int) (h1 : Nat) (hs : Nat) (cs : Int) (a : Int → Int) (h2 : Nat) (hk : Nat) (ck : Int) (b : Int → Int) (bl : Int) (hcs : 0 ≤ cs ∧ cs ≤ 64) (hck : 0 ≤ ck ∧ ck ≤ 64) (hbl : 1 ≤ bl ∧ bl ≤ 32) (htot : cs + ck ≤ 65) : zC l yX0_overlapAdd wsX0_overlapAdd ({ frames := 2, cells := 0, slots := 0, locals := 47 } : Room) D [(cI, .int)] [(hr_, .inl (cI, 64, .inl (zA r)))] [(h0, .inr (0, [.ref hr_, .ref hwn])), (h1, .inr (2, [.ref hs, .int (zI cs)])), (hs, .inl (cI, 64, .inl (zA a))), (h2, .inr (2, [.ref hk, .int (zI ck)])), (hk, .inl (cI, 64, .inl (zA b)))] [.ref h0, .ref h1, .ref h2, .int (zI bl)] (S := Int → Int) (fun r2 => ∀ k, 0 ≤ k → k < 64 → r2 k = lin a cs b ck k) (fun r2 => none) (fun r2 => [(hr_, .inl (cI, 64, .inl (zA r2)))]) := by
  refine z_start (cc := cX0_overlapAdd) (maxL := 6) (ret := none) (own := RX0) (by decide) rfl rfl (Nat.le_of_ble_eq_true rfl) [(0, .ref h0), (1, .ref h1), (2, .ref h2), (3, .int (zI bl))] rfl ?_
  intro pp ee s mm below meth cc A H ls hx hb hr hml hts hown hlocks hin hK hA hP hD hS hR0 hR hl
  have CF : CallFix pp mm cc cX0_overlapAdd 6 s ([.ref h0, .ref h1, .ref h2, .int (zI bl)] : List Value).toArray wsX0_overlapAdd RX0 := ⟨hx, hb, hml, hown, hts⟩
  have hi0 : ∀ w ∈ wsX00, w ∈ wsX0_overlapAdd := by decide +kernel
  refine lv_aload_n hx hb dX0_overlapAdd_0 rfl (lv_at hl 0 rfl) ?_
  refine va_get (D := D) (ci := 0) (C := RX0) (T := TX0) (N := 2) hx hb hts hi0 hown hK hR 0 rfl rfl 0 (by decide) (hts (.fieldLink RX0 9 "ButterflyYard$Convolver" "results" "[I") (by decide +kernel)) (fun _ h9 => h9) rfl dX0_overlapAdd_1 ?_
  refine z_iconst hx hb dX0_overlapAdd_4 ?_
  have hRc : va_P D vwCl [] H := z_nilP
  have hPc := hP.sub (ws' := [(hr_, .inl (cI, 64, .inl (zA r)))]) [0] rfl
  have hDc := hD.sub (ws' := [(hr_, .inl (cI, 64, .inl (zA r)))]) [0] (by decide) rfl
  refine z_mu (ws := [(hr_, .inl (cI, 64, .inl (zA r)))]) (wc := [(hr_, .inl (cI, 64, .inl (zA r)))]) (wr := []) (va_runS (As := [.ref hr_, .int (zI 0)]) (rest := []) CF (c_J7_fill l D cI hr_ r 0 H.size) (va_cwS 2 hts gX0_overlapAdd_J7_fill_53178 rfl rfl rfl (by decide +kernel) ⟨Nat.le_of_ble_eq_true rfl, Nat.le_of_ble_eq_true rfl⟩) (z_preS hPc hDc hRc (z_dis (ws := [(hr_, .inl (cI, 64, .inl (zA r)))]) (rs := [(h0, .inr (0, [.ref hr_, .ref hwn])), (h1, .inr (2, [.ref hs, .int (zI cs)])), (hs, .inl (cI, 64, .inl (zA a))), (h2, .inr (2, [.ref hk, .int (zI ck)])), (hk, .inl (cI, 64, .inl (zA b)))]) (wc := [(hr_, .inl (cI, 64, .inl (zA r)))]) (rc := []) hD hR0 (isC := [0]) (isR := []) rfl rfl (by decide)) (hK.sub (tys' := [(cI, .int)]) [0] rfl)) rfl rfl hl.1 rfl (lv_room (Nat.le_of_ble_eq_true rfl)) dX0_overlapAdd_5 ⟨Nat.le_of_ble_eq_true rfl, Nat.le_of_ble_eq_true rfl⟩) hP hD hS hA [0] [] rfl rfl (by decide) (by decide) (cells' := 0) (slots' := 0) rfl rfl (fun u_5 H locs hp_5 hP hD hS => ?_)
  revert hp_5 hP hD
  generalize u_5 = g2_5
  intro hp_5 hP hD
  have hp_5 : ∀ k, 0 ≤ k → k < 64 → g2_5 k = 0 := hp_5
  have hP := hP.sub (ws' := [(hr_, .inl (cI, 64, .inl (zA g2_5)))]) [0] rfl
  have hD := hD.sub (ws' := [(hr_, .inl (cI, 64, .inl (zA g2_5)))]) [0] (by decide) rfl
  have hR := hR0.at hS
  refine lv_iload_n hx hb dX0_overlapAdd_8 rfl (lv_at hl 3 rfl) ?_
  refine z_iconst hx hb dX0_overlapAdd_9 ?_
  refine z_mmax hx hb (hml.trans hl.1.symm) hown (hts (.methodLink RX0 24 Lib.Math.max.name) (by decide +kernel)) (hts (.static Lib.Math.max.name) (by decide +kernel)) (hts (.initialized "java/lang/Math") (by decide +kernel)) (hts (.code Lib.Math.max.name Lib.Math.max.code 2 (some .int)) (by decide +kernel)) (Nat.le_of_ble_eq_true rfl) (Nat.le_of_ble_eq_true rfl) (Nat.le_of_ble_eq_true rfl) (Nat.le_of_ble_eq_true rfl) (by omega) dX0_overlapAdd_10 ?_
  refine z_eqI (b := bl) (by omega) ?_
  refine lv_istore (lv' := [(4, .int (zI bl)), (0, .ref h0), (1, .ref h1), (2, .ref h2), (3, .int (zI bl))]) hx hb dX0_overlapAdd_13 hl (by decide) rfl (fun ls hl => ?_)
  have hl := lv_sub hl [1, 2, 3, 4, 0] rfl
  have hl : lv_has ls 6 [(0, .ref h0), (1, .ref h1), (2, .ref h2), (3, .int (zI bl)), (4, .int (zI bl))] := hl
  refine z_iconst hx hb dX0_overlapAdd_15 ?_
  refine lv_istore (lv' := [(5, .int (zI 0)), (0, .ref h0), (1, .ref h1), (2, .ref h2), (3, .int (zI bl)), (4, .int (zI bl))]) hx hb dX0_overlapAdd_16 hl (by decide) rfl (fun ls hl => ?_)
  have hl := lv_sub hl [1, 2, 3, 4, 5, 0] rfl
  have hl : lv_has ls 6 [(0, .ref h0), (1, .ref h1), (2, .ref h2), (3, .int (zI bl)), (4, .int (zI bl)), (5, .int (zI 0))] := hl
  refine z_loop (σ := Int × (Int → Int)) (fun (j, r2) => (96 - j).toNat) (fun (j, r2) H locs ls => (0 ≤ j ∧ j ≤ 96) ∧ (∀ k, 0 ≤ k → k < 64 → r2 k = zT (fun j => rowAt a cs j * rowAt b ck (k - j)) (min j cs)) ∧ va_P D vwCl [(hr_, .inl (cI, 64, .inl (zA r2)))] H ∧ va_D A [(hr_, .inl (cI, 64, .inl (zA r2)))] ∧ va_S A s.heap H locs ∧ lv_has ls 6 [(0, .ref h0), (1, .ref h1), (2, .ref h2), (3, .int (zI bl)), (4, .int (zI bl)), (5, .int (zI j))]) (0, g2_5) ⟨(by omega), (fun k h1 h2 => by rw [hp_5 k h1 h2, show min 0 cs = 0 by omega, zT_0]), hP, hD, hS, hl⟩ ?_
  intro ⟨j, r2⟩ H locs ls hI ih_18
  obtain ⟨hj, hf, hP, hD, hS, hl⟩ := hI
  have hR := hR0.at hS
  refine lv_iload hx hb dX0_overlapAdd_18 (lv_at hl 5 rfl) ?_
  refine lv_aload_n hx hb dX0_overlapAdd_20 rfl (lv_at hl 1 rfl) ?_
  have hRc := z_subR (ws := [(hr_, .inl (cI, 64, .inl (zA r2)))]) (rs := [(h0, .inr (0, [.ref hr_, .ref hwn])), (h1, .inr (2, [.ref hs, .int (zI cs)])), (hs, .inl (cI, 64, .inl (zA a))), (h2, .inr (2, [.ref hk, .int (zI ck)])), (hk, .inl (cI, 64, .inl (zA b)))]) (rc := [(h1, .inr (2, [.ref hs, .int (zI cs)]))]) hP hR (isR := [2]) rfl
  refine z_ro (ws := [(hr_, .inl (cI, 64, .inl (zA r2)))]) (va_runV (As := []) (rest := [.int (zI j)]) CF (c_X3_count l D h1 hs cs H.size) (cwV 0 hts gX0_overlapAdd_X3_count rfl rfl rfl (by decide +kernel) ⟨Nat.le_of_ble_eq_true rfl, Nat.le_of_ble_eq_true rfl⟩) (z_preV (va_recv hK hR (ci := 2) (q0 := 1) rfl rfl) z_nilP (z_nilD (A := A)) hRc z_noX (hK.sub (tys' := []) [] rfl)) rfl rfl hl.1 rfl (lv_room (Nat.le_of_ble_eq_true rfl)) dX0_overlapAdd_21 ⟨Nat.le_of_ble_eq_true rfl, Nat.le_of_ble_eq_true rfl⟩) hP hS hA (cells' := 0) (slots' := 0) rfl rfl (fun H locs hP hS => ?_)
  have hR := hR0.at hS
  refine z_icmp_ge (tgt := 57) hx hb dX0_overlapAdd_24 (by decide) (by omega) (fun c_24 => ?_) (fun c_24 => ?_)
  · exact z_vret hx hb hr hlocks r2 rfl (fun k h1 h2 => by rw [hf k h1 h2, show min j cs = cs by omega]; rfl) hP hD hS dX0_overlapAdd_57
  · refine lv_aload_n hx hb dX0_overlapAdd_27 rfl (lv_at hl 0 rfl) ?_
    refine lv_aload_n hx hb dX0_overlapAdd_28 rfl (lv_at hl 1 rfl) ?_
    refine lv_iload hx hb dX0_overlapAdd_29 (lv_at hl 5 rfl) ?_
    refine lv_iload hx hb dX0_overlapAdd_31 (lv_at hl 5 rfl) ?_
    refine lv_iload hx hb dX0_overlapAdd_33 (lv_at hl 4 rfl) ?_
    refine z_iadd hx hb dX0_overlapAdd_35 ?_
    refine lv_aload_n hx hb dX0_overlapAdd_36 rfl (lv_at hl 1 rfl) ?_
    have hRc := z_subR (ws := [(hr_, .inl (cI, 64, .inl (zA r2)))]) (rs := [(h0, .inr (0, [.ref hr_, .ref hwn])), (h1, .inr (2, [.ref hs, .int (zI cs)])), (hs, .inl (cI, 64, .inl (zA a))), (h2, .inr (2, [.ref hk, .int (zI ck)])), (hk, .inl (cI, 64, .inl (zA b)))]) (rc := [(h1, .inr (2, [.ref hs, .int (zI cs)]))]) hP hR (isR := [2]) rfl
    refine z_ro (ws := [(hr_, .inl (cI, 64, .inl (zA r2)))]) (va_runV (As := []) (rest := [.int (zI (j + bl)), .int (zI j), .ref h1, .ref h0]) CF (c_X3_count l D h1 hs cs H.size) (cwV 0 hts gX0_overlapAdd_X3_count rfl rfl rfl (by decide +kernel) ⟨Nat.le_of_ble_eq_true rfl, Nat.le_of_ble_eq_true rfl⟩) (z_preV (va_recv hK hR (ci := 2) (q0 := 1) rfl rfl) z_nilP (z_nilD (A := A)) hRc z_noX (hK.sub (tys' := []) [] rfl)) rfl rfl hl.1 rfl (lv_room (Nat.le_of_ble_eq_true rfl)) dX0_overlapAdd_37 ⟨Nat.le_of_ble_eq_true rfl, Nat.le_of_ble_eq_true rfl⟩) hP hS hA (cells' := 0) (slots' := 0) rfl rfl (fun H locs hP hS => ?_)
    have hR := hR0.at hS
    refine z_mmin hx hb (hml.trans hl.1.symm) hown (hts (.methodLink RX0 36 Lib.Math.min.name) (by decide +kernel)) (hts (.static Lib.Math.min.name) (by decide +kernel)) (hts (.initialized "java/lang/Math") (by decide +kernel)) (hts (.code Lib.Math.min.name Lib.Math.min.code 2 (some .int)) (by decide +kernel)) (Nat.le_of_ble_eq_true rfl) (Nat.le_of_ble_eq_true rfl) (Nat.le_of_ble_eq_true rfl) (Nat.le_of_ble_eq_true rfl) (by omega) dX0_overlapAdd_40 ?_
    refine lv_aload_n hx hb dX0_overlapAdd_43 rfl (lv_at hl 2 rfl) ?_
    have hRc := z_subR (ws := [(hr_, .inl (cI, 64, .inl (zA r2)))]) (rs := [(h0, .inr (0, [.ref hr_, .ref hwn])), (h1, .inr (2, [.ref hs, .int (zI cs)])), (hs, .inl (cI, 64, .inl (zA a))), (h2, .inr (2, [.ref hk, .int (zI ck)])), (hk, .inl (cI, 64, .inl (zA b)))]) (rc := [(h0, .inr (0, [.ref hr_, .ref hwn])), (h1, .inr (2, [.ref hs, .int (zI cs)])), (hs, .inl (cI, 64, .inl (zA a))), (h2, .inr (2, [.ref hk, .int (zI ck)])), (hk, .inl (cI, 64, .inl (zA b)))]) hP hR (isR := [1, 2, 3, 4, 5]) rfl
    have hPc := hP.sub (ws' := [(hr_, .inl (cI, 64, .inl (zA r2)))]) [0] rfl
    have hDc := hD.sub (ws' := [(hr_, .inl (cI, 64, .inl (zA r2)))]) [0] (by decide) rfl
    refine z_mu (ws := [(hr_, .inl (cI, 64, .inl (zA r2)))]) (wc := [(hr_, .inl (cI, 64, .inl (zA r2)))]) (wr := []) (va_runV (As := [.ref h1, .int (zI j), .int (zI (min (j + bl) cs)), .ref h2]) (rest := []) CF (c_X0_addProducts l D cI h0 hr_ hwn r2 h1 hs cs a h2 hk ck b j (min (j + bl) cs) (by omega) (by omega) (by omega) (by omega) H.size) (cwV 4 hts gX0_overlapAdd_X0_addProducts rfl rfl rfl (by decide +kernel) ⟨Nat.le_of_ble_eq_true rfl, Nat.le_of_ble_eq_true rfl⟩) (z_preV (va_recv hK hR (ci := 0) (q0 := 0) rfl rfl) hPc hDc hRc (z_dis (ws := [(hr_, .inl (cI, 64, .inl (zA r2)))]) (rs := [(h0, .inr (0, [.ref hr_, .ref hwn])), (h1, .inr (2, [.ref hs, .int (zI cs)])), (hs, .inl (cI, 64, .inl (zA a))), (h2, .inr (2, [.ref hk, .int (zI ck)])), (hk, .inl (cI, 64, .inl (zA b)))]) (wc := [(hr_, .inl (cI, 64, .inl (zA r2)))]) (rc := [(h0, .inr (0, [.ref hr_, .ref hwn])), (h1, .inr (2, [.ref hs, .int (zI cs)])), (hs, .inl (cI, 64, .inl (zA a))), (h2, .inr (2, [.ref hk, .int (zI ck)])), (hk, .inl (cI, 64, .inl (zA b)))]) hD hR0 (isC := [0]) (isR := [1, 2, 3, 4, 5]) rfl rfl (by decide)) (hK.sub (tys' := [(cI, .int)]) [0] rfl)) rfl rfl hl.1 rfl (lv_room (Nat.le_of_ble_eq_true rfl)) dX0_overlapAdd_44 ⟨Nat.le_of_ble_eq_true rfl, Nat.le_of_ble_eq_true rfl⟩) hP hD hS hA [0] [] rfl rfl (by decide) (by decide) (cells' := 0) (slots' := 0) rfl rfl (fun u_44 H locs hp_44 hP hD hS => ?_)
    revert hp_44 hP hD
    generalize u_44 = r2_44
    intro hp_44 hP hD
    have hp_44 : ∀ k, 0 ≤ k → k < 64 → r2_44 k = r2 k + (zT (fun j => rowAt a cs j * rowAt b ck (k - j)) (min (j + bl) cs) - zT (fun j => rowAt a cs j * rowAt b ck (k - j)) j) := hp_44
    have hP := hP.sub (ws' := [(hr_, .inl (cI, 64, .inl (zA r2_44)))]) [0] rfl
    have hD := hD.sub (ws' := [(hr_, .inl (cI, 64, .inl (zA r2_44)))]) [0] (by decide) rfl
    have hR := hR0.at hS
    refine lv_iload hx hb dX0_overlapAdd_47 (lv_at hl 5 rfl) ?_
    refine lv_iload hx hb dX0_overlapAdd_49 (lv_at hl 4 rfl) ?_
    refine z_iadd hx hb dX0_overlapAdd_51 ?_
    refine lv_istore (lv' := [(5, .int (zI (j + bl))), (0, .ref h0), (1, .ref h1), (2, .ref h2), (3, .int (zI bl)), (4, .int (zI bl))]) hx hb dX0_overlapAdd_52 hl (by decide) rfl (fun ls hl => ?_)
    have hl := lv_sub hl [1, 2, 3, 4, 5, 0] rfl
    have hl : lv_has ls 6 [(0, .ref h0), (1, .ref h1), (2, .ref h2), (3, .int (zI bl)), (4, .int (zI bl)), (5, .int (zI (j + bl)))] := hl
    refine lv_goto (tgt := 18) hx hb dX0_overlapAdd_54 (by decide) ?_
    exact ih_18 (j + bl, r2_44) _ _ _ ⟨(by omega), (by exact fun k h1 h2 => by rw [hp_44 k h1 h2, hf k h1 h2, show min j cs = j by omega]; omega), hP, hD, hS, hl⟩ (by show (96 - (j + bl)).toNat < (96 - j).toNat; omega)

set_option maxHeartbeats 4000000 in
set_option maxRecDepth 100000 in
theorem c_X0_saveBlock (l : Launch) (D : va_G) (cI : ClassId) (h0 : Nat) (hr_ : Nat) (hwn : Nat) (r : Int → Int) (w : Int → Int) (h1 : Nat) (hs : Nat) (cs : Int) (a : Int → Int) (h2 : Nat) (hk : Nat) (ck : Int) (b : Int → Int) (lo : Int) (hi : Int) (hcs : 0 ≤ cs ∧ cs ≤ 64) (hck : 0 ≤ ck ∧ ck ≤ 64) (hck1 : 1 ≤ ck) (hlh : 0 ≤ lo ∧ lo ≤ hi ∧ hi ≤ 64 ∧ hi - lo ≤ 32) : zC l yX0_saveBlock wsX0_saveBlock ({ frames := 1, cells := 0, slots := 0, locals := 21 } : Room) D [(cI, .int)] [(hr_, .inl (cI, 64, .inl (zA r))), (hwn, .inl (cI, 96, .inl (zA w)))] [(h0, .inr (0, [.ref hr_, .ref hwn])), (h1, .inr (2, [.ref hs, .int (zI cs)])), (hs, .inl (cI, 64, .inl (zA a))), (h2, .inr (2, [.ref hk, .int (zI ck)])), (hk, .inl (cI, 64, .inl (zA b)))] [.ref h0, .ref h1, .ref h2, .int (zI lo), .int (zI hi)] (S := (Int → Int) × (Int → Int)) (fun (r2, w2) => (∀ k, 0 ≤ k → k < 64 → r2 k = if lo ≤ k ∧ k < hi then lin b ck a cs k else r k)) (fun (r2, w2) => none) (fun (r2, w2) => [(hr_, .inl (cI, 64, .inl (zA r2))), (hwn, .inl (cI, 96, .inl (zA w2)))]) := by
  refine z_start (cc := cX0_saveBlock) (maxL := 10) (ret := none) (own := RX0) (by decide) rfl rfl (Nat.le_of_ble_eq_true rfl) [(0, .ref h0), (1, .ref h1), (2, .ref h2), (3, .int (zI lo)), (4, .int (zI hi))] rfl ?_
  intro pp ee s mm below meth cc A H ls hx hb hr hml hts hown hlocks hin hK hA hP hD hS hR0 hR hl
  have CF : CallFix pp mm cc cX0_saveBlock 10 s ([.ref h0, .ref h1, .ref h2, .int (zI lo), .int (zI hi)] : List Value).toArray wsX0_saveBlock RX0 := ⟨hx, hb, hml, hown, hts⟩
  have hi0 : ∀ w ∈ wsX00, w ∈ wsX0_saveBlock := by decide +kernel
  refine lv_aload_n hx hb dX0_saveBlock_0 rfl (lv_at hl 2 rfl) ?_
  have hRc := z_subR (ws := [(hr_, .inl (cI, 64, .inl (zA r))), (hwn, .inl (cI, 96, .inl (zA w)))]) (rs := [(h0, .inr (0, [.ref hr_, .ref hwn])), (h1, .inr (2, [.ref hs, .int (zI cs)])), (hs, .inl (cI, 64, .inl (zA a))), (h2, .inr (2, [.ref hk, .int (zI ck)])), (hk, .inl (cI, 64, .inl (zA b)))]) (rc := [(h2, .inr (2, [.ref hk, .int (zI ck)]))]) hP hR (isR := [5]) rfl
  refine z_ro (ws := [(hr_, .inl (cI, 64, .inl (zA r))), (hwn, .inl (cI, 96, .inl (zA w)))]) (va_runV (As := []) (rest := []) CF (c_X3_count l D h2 hk ck H.size) (cwV 0 hts gX0_saveBlock_X3_count rfl rfl rfl (by decide +kernel) ⟨Nat.le_of_ble_eq_true rfl, Nat.le_of_ble_eq_true rfl⟩) (z_preV (va_recv hK hR (ci := 2) (q0 := 3) rfl rfl) z_nilP (z_nilD (A := A)) hRc z_noX (hK.sub (tys' := []) [] rfl)) rfl rfl hl.1 rfl (lv_room (Nat.le_of_ble_eq_true rfl)) dX0_saveBlock_1 ⟨Nat.le_of_ble_eq_true rfl, Nat.le_of_ble_eq_true rfl⟩) hP hS hA (cells' := 0) (slots' := 0) rfl rfl (fun H locs hP hS => ?_)
  have hR := hR0.at hS
  refine z_iconst hx hb dX0_saveBlock_4 ?_
  refine z_isub hx hb dX0_saveBlock_5 ?_
  refine lv_istore (lv' := [(5, .int (zI (ck - 1))), (0, .ref h0), (1, .ref h1), (2, .ref h2), (3, .int (zI lo)), (4, .int (zI hi))]) hx hb dX0_saveBlock_6 hl (by decide) rfl (fun ls hl => ?_)
  have hl := lv_sub hl [1, 2, 3, 4, 5, 0] rfl
  have hl : lv_has ls 10 [(0, .ref h0), (1, .ref h1), (2, .ref h2), (3, .int (zI lo)), (4, .int (zI hi)), (5, .int (zI (ck - 1)))] := hl
  refine lv_iload_n hx hb dX0_saveBlock_8 rfl (lv_at hl 3 rfl) ?_
  refine lv_iload hx hb dX0_saveBlock_9 (lv_at hl 5 rfl) ?_
  refine z_isub hx hb dX0_saveBlock_11 ?_
  refine lv_istore (lv' := [(6, .int (zI (lo - (ck - 1)))), (0, .ref h0), (1, .ref h1), (2, .ref h2), (3, .int (zI lo)), (4, .int (zI hi)), (5, .int (zI (ck - 1)))]) hx hb dX0_saveBlock_12 hl (by decide) rfl (fun ls hl => ?_)
  have hl := lv_sub hl [1, 2, 3, 4, 5, 6, 0] rfl
  have hl : lv_has ls 10 [(0, .ref h0), (1, .ref h1), (2, .ref h2), (3, .int (zI lo)), (4, .int (zI hi)), (5, .int (zI (ck - 1))), (6, .int (zI (lo - (ck - 1))))] := hl
  refine lv_iload hx hb dX0_saveBlock_14 (lv_at hl 6 rfl) ?_
  refine lv_istore (lv' := [(7, .int (zI (lo - (ck - 1)))), (0, .ref h0), (1, .ref h1), (2, .ref h2), (3, .int (zI lo)), (4, .int (zI hi)), (5, .int (zI (ck - 1))), (6, .int (zI (lo - (ck - 1))))]) hx hb dX0_saveBlock_16 hl (by decide) rfl (fun ls hl => ?_)
  have hl := lv_sub hl [1, 2, 3, 4, 5, 6, 7, 0] rfl
  have hl : lv_has ls 10 [(0, .ref h0), (1, .ref h1), (2, .ref h2), (3, .int (zI lo)), (4, .int (zI hi)), (5, .int (zI (ck - 1))), (6, .int (zI (lo - (ck - 1)))), (7, .int (zI (lo - (ck - 1))))] := hl
  refine z_loop (σ := Int × (Int → Int)) (fun (j, w2) => (hi - j).toNat) (fun (j, w2) H locs ls => (lo - (ck - 1) ≤ j ∧ j ≤ hi) ∧ (∀ x, lo - (ck - 1) ≤ x → x < j → w2 (x - (lo - (ck - 1))) = rowAt a cs x) ∧ va_P D vwCl [(hr_, .inl (cI, 64, .inl (zA r))), (hwn, .inl (cI, 96, .inl (zA w2)))] H ∧ va_D A [(hr_, .inl (cI, 64, .inl (zA r))), (hwn, .inl (cI, 96, .inl (zA w2)))] ∧ va_S A s.heap H locs ∧ lv_has ls 10 [(0, .ref h0), (1, .ref h1), (2, .ref h2), (3, .int (zI lo)), (4, .int (zI hi)), (5, .int (zI (ck - 1))), (6, .int (zI (lo - (ck - 1)))), (7, .int (zI j))]) (lo - (ck - 1), w) ⟨(by omega), (fun x h1 h2 => absurd h2 (by omega)), hP, hD, hS, hl⟩ ?_
  intro ⟨j, w2⟩ H locs ls hI ih_18
  obtain ⟨hj, hw, hP, hD, hS, hl⟩ := hI
  have hR := hR0.at hS
  refine lv_iload hx hb dX0_saveBlock_18 (lv_at hl 7 rfl) ?_
  refine lv_iload hx hb dX0_saveBlock_20 (lv_at hl 4 rfl) ?_
  refine z_icmp_ge (tgt := 47) hx hb dX0_saveBlock_22 (by decide) (by omega) (fun c_22 => ?_) (fun c_22 => ?_)
  · refine lv_iload_n hx hb dX0_saveBlock_47 rfl (lv_at hl 3 rfl) ?_
    refine lv_istore (lv' := [(7, .int (zI lo)), (0, .ref h0), (1, .ref h1), (2, .ref h2), (3, .int (zI lo)), (4, .int (zI hi)), (5, .int (zI (ck - 1))), (6, .int (zI (lo - (ck - 1))))]) hx hb dX0_saveBlock_48 hl (by decide) rfl (fun ls hl => ?_)
    have hl := lv_sub hl [1, 2, 3, 4, 5, 6, 7, 0] rfl
    have hl : lv_has ls 10 [(0, .ref h0), (1, .ref h1), (2, .ref h2), (3, .int (zI lo)), (4, .int (zI hi)), (5, .int (zI (ck - 1))), (6, .int (zI (lo - (ck - 1)))), (7, .int (zI lo))] := hl
    refine z_loop (σ := Int × (Int → Int)) (fun (x, r2) => (hi - x).toNat) (fun (x, r2) H locs ls => (lo ≤ x ∧ x ≤ hi) ∧ (∀ k, 0 ≤ k → k < 64 → r2 k = if lo ≤ k ∧ k < x then lin b ck a cs k else r k) ∧ va_P D vwCl [(hr_, .inl (cI, 64, .inl (zA r2))), (hwn, .inl (cI, 96, .inl (zA w2)))] H ∧ va_D A [(hr_, .inl (cI, 64, .inl (zA r2))), (hwn, .inl (cI, 96, .inl (zA w2)))] ∧ va_S A s.heap H locs ∧ lv_has ls 10 [(0, .ref h0), (1, .ref h1), (2, .ref h2), (3, .int (zI lo)), (4, .int (zI hi)), (5, .int (zI (ck - 1))), (6, .int (zI (lo - (ck - 1)))), (7, .int (zI x))]) (lo, r) ⟨(by omega), (fun k h1 h2 => by rw [if_neg (by omega)]), hP, hD, hS, hl⟩ ?_
    intro ⟨x, r2⟩ H locs ls hI ih_50
    obtain ⟨hx_, hf, hP, hD, hS, hl⟩ := hI
    have hR := hR0.at hS
    refine lv_iload hx hb dX0_saveBlock_50 (lv_at hl 7 rfl) ?_
    refine lv_iload hx hb dX0_saveBlock_52 (lv_at hl 4 rfl) ?_
    refine z_icmp_ge (tgt := 116) hx hb dX0_saveBlock_54 (by decide) (by omega) (fun c_54 => ?_) (fun c_54 => ?_)
    · exact z_vret hx hb hr hlocks (r2, w2) rfl (fun k h1 h2 => by rw [hf k h1 h2, show x = hi by omega]) hP hD hS dX0_saveBlock_116
    · refine z_iconst hx hb dX0_saveBlock_57 ?_
      refine lv_istore (lv' := [(8, .int (zI 0)), (0, .ref h0), (1, .ref h1), (2, .ref h2), (3, .int (zI lo)), (4, .int (zI hi)), (5, .int (zI (ck - 1))), (6, .int (zI (lo - (ck - 1)))), (7, .int (zI x))]) hx hb dX0_saveBlock_58 hl (by decide) rfl (fun ls hl => ?_)
      have hl := lv_sub hl [1, 2, 3, 4, 5, 6, 7, 8, 0] rfl
      have hl : lv_has ls 10 [(0, .ref h0), (1, .ref h1), (2, .ref h2), (3, .int (zI lo)), (4, .int (zI hi)), (5, .int (zI (ck - 1))), (6, .int (zI (lo - (ck - 1)))), (7, .int (zI x)), (8, .int (zI 0))] := hl
      refine z_iconst hx hb dX0_saveBlock_60 ?_
      refine lv_istore (lv' := [(9, .int (zI 0)), (0, .ref h0), (1, .ref h1), (2, .ref h2), (3, .int (zI lo)), (4, .int (zI hi)), (5, .int (zI (ck - 1))), (6, .int (zI (lo - (ck - 1)))), (7, .int (zI x)), (8, .int (zI 0))]) hx hb dX0_saveBlock_61 hl (by decide) rfl (fun ls hl => ?_)
      have hl := lv_sub hl [1, 2, 3, 4, 5, 6, 7, 8, 9, 0] rfl
      have hl : lv_has ls 10 [(0, .ref h0), (1, .ref h1), (2, .ref h2), (3, .int (zI lo)), (4, .int (zI hi)), (5, .int (zI (ck - 1))), (6, .int (zI (lo - (ck - 1)))), (7, .int (zI x)), (8, .int (zI 0)), (9, .int (zI 0))] := hl
      refine z_loop (σ := Int × Int) (fun (t, i) => (ck - i).toNat) (fun (t, i) H locs ls => (0 ≤ i ∧ i ≤ ck) ∧ t = zT (fun i => rowAt b ck i * rowAt a cs (x - i)) i ∧ va_P D vwCl [(hr_, .inl (cI, 64, .inl (zA r2))), (hwn, .inl (cI, 96, .inl (zA w2)))] H ∧ va_D A [(hr_, .inl (cI, 64, .inl (zA r2))), (hwn, .inl (cI, 96, .inl (zA w2)))] ∧ va_S A s.heap H locs ∧ lv_has ls 10 [(0, .ref h0), (1, .ref h1), (2, .ref h2), (3, .int (zI lo)), (4, .int (zI hi)), (5, .int (zI (ck - 1))), (6, .int (zI (lo - (ck - 1)))), (7, .int (zI x)), (8, .int (zI t)), (9, .int (zI i))]) (0, 0) ⟨(by omega), (by rfl), hP, hD, hS, hl⟩ ?_
      intro ⟨t, i⟩ H locs ls hI ih_63
      obtain ⟨hi_, ht, hP, hD, hS, hl⟩ := hI
      have hR := hR0.at hS
      refine lv_iload hx hb dX0_saveBlock_63 (lv_at hl 9 rfl) ?_
      refine lv_iload hx hb dX0_saveBlock_65 (lv_at hl 5 rfl) ?_
      refine z_icmp_gt (tgt := 101) hx hb dX0_saveBlock_67 (by decide) (by omega) (fun c_67 => ?_) (fun c_67 => ?_)
      · refine lv_aload_n hx hb dX0_saveBlock_101 rfl (lv_at hl 0 rfl) ?_
        refine va_get (D := D) (ci := 0) (C := RX0) (T := TX0) (N := 2) hx hb hts hi0 hown hK hR 0 rfl rfl 0 (by decide) (hts (.fieldLink RX0 9 "ButterflyYard$Convolver" "results" "[I") (by decide +kernel)) (fun _ h9 => h9) rfl dX0_saveBlock_102 ?_
        refine lv_iload hx hb dX0_saveBlock_105 (lv_at hl 7 rfl) ?_
        refine lv_iload hx hb dX0_saveBlock_107 (lv_at hl 8 rfl) ?_
        refine z_iast (cA := cI) (n := 64) (g := r2) (i := x) (v := t) hx hb hK hP hD hS 0 0 rfl rfl rfl (by omega) dX0_saveBlock_109 (fun H locs hP hD hS => ?_)
        have hP : va_P D vwCl [(hr_, .inl (cI, 64, .inl (zA (zU r2 x t)))), (hwn, .inl (cI, 96, .inl (zA w2)))] H := hP
        have hD : va_D A [(hr_, .inl (cI, 64, .inl (zA (zU r2 x t)))), (hwn, .inl (cI, 96, .inl (zA w2)))] := hD
        have hR := hR0.at hS
        refine lv_iinc (v := zI (x + 1)) (lv' := [(7, .int (zI (x + 1))), (0, .ref h0), (1, .ref h1), (2, .ref h2), (3, .int (zI lo)), (4, .int (zI hi)), (5, .int (zI (ck - 1))), (6, .int (zI (lo - (ck - 1)))), (8, .int (zI t)), (9, .int (zI i))]) hx hb dX0_saveBlock_110 hl (k := 7) rfl (zI_add _ _) (by decide) rfl (fun ls hl => ?_)
        have hl := lv_sub hl [1, 2, 3, 4, 5, 6, 7, 0, 8, 9] rfl
        have hl : lv_has ls 10 [(0, .ref h0), (1, .ref h1), (2, .ref h2), (3, .int (zI lo)), (4, .int (zI hi)), (5, .int (zI (ck - 1))), (6, .int (zI (lo - (ck - 1)))), (7, .int (zI (x + 1))), (8, .int (zI t)), (9, .int (zI i))] := hl
        refine lv_goto (tgt := 50) hx hb dX0_saveBlock_113 (by decide) ?_
        exact ih_50 (x + 1, zU r2 x t) _ _ _ ⟨(by omega), (by exact fun k h1 h2 => by by_cases e : k = x; (subst e; rw [zU_s, if_pos (by omega), ht, show i = ck by omega]; rfl); (rw [zU_n _ _ e, hf k h1 h2]; by_cases q : lo ≤ k ∧ k < x; rw [if_pos q, if_pos (by omega)]; rw [if_neg q, if_neg (by omega)])), hP, hD, hS, lv_sub hl [0, 1, 2, 3, 4, 5, 6, 7] rfl⟩ (by show (hi - (x + 1)).toNat < (hi - x).toNat; omega)
      · refine lv_iload hx hb dX0_saveBlock_70 (lv_at hl 8 rfl) ?_
        refine lv_aload_n hx hb dX0_saveBlock_72 rfl (lv_at hl 2 rfl) ?_
        refine lv_iload hx hb dX0_saveBlock_73 (lv_at hl 9 rfl) ?_
        have hRc := z_subR (ws := [(hr_, .inl (cI, 64, .inl (zA r2))), (hwn, .inl (cI, 96, .inl (zA w2)))]) (rs := [(h0, .inr (0, [.ref hr_, .ref hwn])), (h1, .inr (2, [.ref hs, .int (zI cs)])), (hs, .inl (cI, 64, .inl (zA a))), (h2, .inr (2, [.ref hk, .int (zI ck)])), (hk, .inl (cI, 64, .inl (zA b)))]) (rc := [(h2, .inr (2, [.ref hk, .int (zI ck)])), (hk, .inl (cI, 64, .inl (zA b)))]) hP hR (isR := [5, 6]) rfl
        refine z_ro (ws := [(hr_, .inl (cI, 64, .inl (zA r2))), (hwn, .inl (cI, 96, .inl (zA w2)))]) (va_runV (As := [.int (zI i)]) (rest := [.int (zI t)]) CF (c_X3_entry l D cI h2 hk ck b i (by omega) (by omega) H.size) (cwV 1 hts gX0_saveBlock_X3_entry rfl rfl rfl (by decide +kernel) ⟨Nat.le_of_ble_eq_true rfl, Nat.le_of_ble_eq_true rfl⟩) (z_preV (va_recv hK hR (ci := 2) (q0 := 3) rfl rfl) z_nilP (z_nilD (A := A)) hRc z_noX (hK.sub (tys' := [(cI, .int)]) [0] rfl)) rfl rfl hl.1 rfl (lv_room (Nat.le_of_ble_eq_true rfl)) dX0_saveBlock_75 ⟨Nat.le_of_ble_eq_true rfl, Nat.le_of_ble_eq_true rfl⟩) hP hS hA (cells' := 0) (slots' := 0) rfl rfl (fun H locs hP hS => ?_)
        have hR := hR0.at hS
        refine lv_aload_n hx hb dX0_saveBlock_78 rfl (lv_at hl 0 rfl) ?_
        refine va_get (D := D) (ci := 0) (C := RX0) (T := TX0) (N := 2) hx hb hts hi0 hown hK hR 0 rfl rfl 1 (by decide) (hts (.fieldLink RX0 15 "ButterflyYard$Convolver" "window" "[I") (by decide +kernel)) (fun _ h9 => h9) rfl dX0_saveBlock_79 ?_
        refine lv_iload hx hb dX0_saveBlock_82 (lv_at hl 7 rfl) ?_
        refine lv_iload hx hb dX0_saveBlock_84 (lv_at hl 6 rfl) ?_
        refine z_isub hx hb dX0_saveBlock_86 ?_
        refine lv_iload hx hb dX0_saveBlock_87 (lv_at hl 9 rfl) ?_
        refine z_isub hx hb dX0_saveBlock_89 ?_
        refine z_iald (cA := cI) (n := 96) (g := w2) hx hb hK hP 1 0 rfl rfl rfl (by omega) dX0_saveBlock_90 ?_
        refine z_imul hx hb dX0_saveBlock_91 ?_
        refine z_iadd hx hb dX0_saveBlock_92 ?_
        refine lv_istore (lv' := [(8, .int (zI (t + ((rowAt b ck i) * (w2 ((x - (lo - (ck - 1))) - i)))))), (0, .ref h0), (1, .ref h1), (2, .ref h2), (3, .int (zI lo)), (4, .int (zI hi)), (5, .int (zI (ck - 1))), (6, .int (zI (lo - (ck - 1)))), (7, .int (zI x)), (9, .int (zI i))]) hx hb dX0_saveBlock_93 hl (by decide) rfl (fun ls hl => ?_)
        have hl := lv_sub hl [1, 2, 3, 4, 5, 6, 7, 8, 0, 9] rfl
        have hl : lv_has ls 10 [(0, .ref h0), (1, .ref h1), (2, .ref h2), (3, .int (zI lo)), (4, .int (zI hi)), (5, .int (zI (ck - 1))), (6, .int (zI (lo - (ck - 1)))), (7, .int (zI x)), (8, .int (zI (t + ((rowAt b ck i) * (w2 ((x - (lo - (ck - 1))) - i)))))), (9, .int (zI i))] := hl
        refine lv_iinc (v := zI (i + 1)) (lv' := [(9, .int (zI (i + 1))), (0, .ref h0), (1, .ref h1), (2, .ref h2), (3, .int (zI lo)), (4, .int (zI hi)), (5, .int (zI (ck - 1))), (6, .int (zI (lo - (ck - 1)))), (7, .int (zI x)), (8, .int (zI (t + ((rowAt b ck i) * (w2 ((x - (lo - (ck - 1))) - i))))))]) hx hb dX0_saveBlock_95 hl (k := 9) rfl (zI_add _ _) (by decide) rfl (fun ls hl => ?_)
        have hl := lv_sub hl [1, 2, 3, 4, 5, 6, 7, 8, 9, 0] rfl
        have hl : lv_has ls 10 [(0, .ref h0), (1, .ref h1), (2, .ref h2), (3, .int (zI lo)), (4, .int (zI hi)), (5, .int (zI (ck - 1))), (6, .int (zI (lo - (ck - 1)))), (7, .int (zI x)), (8, .int (zI (t + ((rowAt b ck i) * (w2 ((x - (lo - (ck - 1))) - i)))))), (9, .int (zI (i + 1)))] := hl
        refine lv_goto (tgt := 63) hx hb dX0_saveBlock_98 (by decide) ?_
        exact ih_63 (t + ((rowAt b ck i) * (w2 ((x - (lo - (ck - 1))) - i))), i + 1) _ _ _ ⟨(by omega), (by rw [zT_s _ hi_.1, ← ht, ← hw (x - i) (by omega) (by omega), show x - (lo - (ck - 1)) - i = x - i - (lo - (ck - 1)) by omega]), hP, hD, hS, hl⟩ (by show (ck - (i + 1)).toNat < (ck - i).toNat; omega)
  · refine lv_aload_n hx hb dX0_saveBlock_25 rfl (lv_at hl 0 rfl) ?_
    refine va_get (D := D) (ci := 0) (C := RX0) (T := TX0) (N := 2) hx hb hts hi0 hown hK hR 0 rfl rfl 1 (by decide) (hts (.fieldLink RX0 15 "ButterflyYard$Convolver" "window" "[I") (by decide +kernel)) (fun _ h9 => h9) rfl dX0_saveBlock_26 ?_
    refine lv_iload hx hb dX0_saveBlock_29 (lv_at hl 7 rfl) ?_
    refine lv_iload hx hb dX0_saveBlock_31 (lv_at hl 6 rfl) ?_
    refine z_isub hx hb dX0_saveBlock_33 ?_
    refine lv_aload_n hx hb dX0_saveBlock_34 rfl (lv_at hl 1 rfl) ?_
    refine lv_iload hx hb dX0_saveBlock_35 (lv_at hl 7 rfl) ?_
    have hRc := z_subR (ws := [(hr_, .inl (cI, 64, .inl (zA r))), (hwn, .inl (cI, 96, .inl (zA w2)))]) (rs := [(h0, .inr (0, [.ref hr_, .ref hwn])), (h1, .inr (2, [.ref hs, .int (zI cs)])), (hs, .inl (cI, 64, .inl (zA a))), (h2, .inr (2, [.ref hk, .int (zI ck)])), (hk, .inl (cI, 64, .inl (zA b)))]) (rc := [(h1, .inr (2, [.ref hs, .int (zI cs)])), (hs, .inl (cI, 64, .inl (zA a)))]) hP hR (isR := [3, 4]) rfl
    refine z_ro (ws := [(hr_, .inl (cI, 64, .inl (zA r))), (hwn, .inl (cI, 96, .inl (zA w2)))]) (va_runV (As := [.int (zI j)]) (rest := [.int (zI (j - (lo - (ck - 1)))), .ref hwn]) CF (c_X3_entry l D cI h1 hs cs a j (by omega) (by omega) H.size) (cwV 1 hts gX0_saveBlock_X3_entry rfl rfl rfl (by decide +kernel) ⟨Nat.le_of_ble_eq_true rfl, Nat.le_of_ble_eq_true rfl⟩) (z_preV (va_recv hK hR (ci := 2) (q0 := 1) rfl rfl) z_nilP (z_nilD (A := A)) hRc z_noX (hK.sub (tys' := [(cI, .int)]) [0] rfl)) rfl rfl hl.1 rfl (lv_room (Nat.le_of_ble_eq_true rfl)) dX0_saveBlock_37 ⟨Nat.le_of_ble_eq_true rfl, Nat.le_of_ble_eq_true rfl⟩) hP hS hA (cells' := 0) (slots' := 0) rfl rfl (fun H locs hP hS => ?_)
    have hR := hR0.at hS
    refine z_iast (cA := cI) (n := 96) (g := w2) (i := j - (lo - (ck - 1))) (v := rowAt a cs j) hx hb hK hP hD hS 1 0 rfl rfl rfl (by omega) dX0_saveBlock_40 (fun H locs hP hD hS => ?_)
    have hP : va_P D vwCl [(hr_, .inl (cI, 64, .inl (zA r))), (hwn, .inl (cI, 96, .inl (zA (zU w2 (j - (lo - (ck - 1))) (rowAt a cs j)))))] H := hP
    have hD : va_D A [(hr_, .inl (cI, 64, .inl (zA r))), (hwn, .inl (cI, 96, .inl (zA (zU w2 (j - (lo - (ck - 1))) (rowAt a cs j)))))] := hD
    have hR := hR0.at hS
    refine lv_iinc (v := zI (j + 1)) (lv' := [(7, .int (zI (j + 1))), (0, .ref h0), (1, .ref h1), (2, .ref h2), (3, .int (zI lo)), (4, .int (zI hi)), (5, .int (zI (ck - 1))), (6, .int (zI (lo - (ck - 1))))]) hx hb dX0_saveBlock_41 hl (k := 7) rfl (zI_add _ _) (by decide) rfl (fun ls hl => ?_)
    have hl := lv_sub hl [1, 2, 3, 4, 5, 6, 7, 0] rfl
    have hl : lv_has ls 10 [(0, .ref h0), (1, .ref h1), (2, .ref h2), (3, .int (zI lo)), (4, .int (zI hi)), (5, .int (zI (ck - 1))), (6, .int (zI (lo - (ck - 1)))), (7, .int (zI (j + 1)))] := hl
    refine lv_goto (tgt := 18) hx hb dX0_saveBlock_44 (by decide) ?_
    exact ih_18 (j + 1, zU w2 (j - (lo - (ck - 1))) (rowAt a cs j)) _ _ _ ⟨(by omega), (by exact fun x h1 h2 => by by_cases e : x = j; (subst e; rw [zU_s]); (rw [zU_n _ _ (by omega)]; exact hw x h1 (by omega))), hP, hD, hS, hl⟩ (by show (hi - (j + 1)).toNat < (hi - j).toNat; omega)

set_option maxHeartbeats 4000000 in
set_option maxRecDepth 100000 in
theorem c_X0_overlapSave (l : Launch) (D : va_G) (cI : ClassId) (h0 : Nat) (hr_ : Nat) (hwn : Nat) (r : Int → Int) (w : Int → Int) (h1 : Nat) (hs : Nat) (cs : Int) (a : Int → Int) (h2 : Nat) (hk : Nat) (ck : Int) (b : Int → Int) (bl : Int) (hcs : 0 ≤ cs ∧ cs ≤ 64) (hck : 0 ≤ ck ∧ ck ≤ 64) (hck1 : 1 ≤ ck) (hbl : 1 ≤ bl ∧ bl ≤ 32) (htot : 1 ≤ cs ∧ cs + ck ≤ 65) : zC l yX0_overlapSave wsX0_overlapSave ({ frames := 2, cells := 0, slots := 0, locals := 50 } : Room) D [(cI, .int)] [(hr_, .inl (cI, 64, .inl (zA r))), (hwn, .inl (cI, 96, .inl (zA w)))] [(h0, .inr (0, [.ref hr_, .ref hwn])), (h1, .inr (2, [.ref hs, .int (zI cs)])), (hs, .inl (cI, 64, .inl (zA a))), (h2, .inr (2, [.ref hk, .int (zI ck)])), (hk, .inl (cI, 64, .inl (zA b)))] [.ref h0, .ref h1, .ref h2, .int (zI bl)] (S := (Int → Int) × (Int → Int)) (fun (r2, w2) => (∀ k, 0 ≤ k → k < cs + ck - 1 → r2 k = lin a cs b ck k)) (fun (r2, w2) => none) (fun (r2, w2) => [(hr_, .inl (cI, 64, .inl (zA r2))), (hwn, .inl (cI, 96, .inl (zA w2)))]) := by
  refine z_start (cc := cX0_overlapSave) (maxL := 7) (ret := none) (own := RX0) (by decide) rfl rfl (Nat.le_of_ble_eq_true rfl) [(0, .ref h0), (1, .ref h1), (2, .ref h2), (3, .int (zI bl))] rfl ?_
  intro pp ee s mm below meth cc A H ls hx hb hr hml hts hown hlocks hin hK hA hP hD hS hR0 hR hl
  have CF : CallFix pp mm cc cX0_overlapSave 7 s ([.ref h0, .ref h1, .ref h2, .int (zI bl)] : List Value).toArray wsX0_overlapSave RX0 := ⟨hx, hb, hml, hown, hts⟩
  refine lv_aload_n hx hb dX0_overlapSave_0 rfl (lv_at hl 1 rfl) ?_
  have hRc := z_subR (ws := [(hr_, .inl (cI, 64, .inl (zA r))), (hwn, .inl (cI, 96, .inl (zA w)))]) (rs := [(h0, .inr (0, [.ref hr_, .ref hwn])), (h1, .inr (2, [.ref hs, .int (zI cs)])), (hs, .inl (cI, 64, .inl (zA a))), (h2, .inr (2, [.ref hk, .int (zI ck)])), (hk, .inl (cI, 64, .inl (zA b)))]) (rc := [(h1, .inr (2, [.ref hs, .int (zI cs)]))]) hP hR (isR := [3]) rfl
  refine z_ro (ws := [(hr_, .inl (cI, 64, .inl (zA r))), (hwn, .inl (cI, 96, .inl (zA w)))]) (va_runV (As := []) (rest := []) CF (c_X3_count l D h1 hs cs H.size) (cwV 0 hts gX0_overlapSave_X3_count rfl rfl rfl (by decide +kernel) ⟨Nat.le_of_ble_eq_true rfl, Nat.le_of_ble_eq_true rfl⟩) (z_preV (va_recv hK hR (ci := 2) (q0 := 1) rfl rfl) z_nilP (z_nilD (A := A)) hRc z_noX (hK.sub (tys' := []) [] rfl)) rfl rfl hl.1 rfl (lv_room (Nat.le_of_ble_eq_true rfl)) dX0_overlapSave_1 ⟨Nat.le_of_ble_eq_true rfl, Nat.le_of_ble_eq_true rfl⟩) hP hS hA (cells' := 0) (slots' := 0) rfl rfl (fun H locs hP hS => ?_)
  have hR := hR0.at hS
  refine lv_aload_n hx hb dX0_overlapSave_4 rfl (lv_at hl 2 rfl) ?_
  have hRc := z_subR (ws := [(hr_, .inl (cI, 64, .inl (zA r))), (hwn, .inl (cI, 96, .inl (zA w)))]) (rs := [(h0, .inr (0, [.ref hr_, .ref hwn])), (h1, .inr (2, [.ref hs, .int (zI cs)])), (hs, .inl (cI, 64, .inl (zA a))), (h2, .inr (2, [.ref hk, .int (zI ck)])), (hk, .inl (cI, 64, .inl (zA b)))]) (rc := [(h2, .inr (2, [.ref hk, .int (zI ck)]))]) hP hR (isR := [5]) rfl
  refine z_ro (ws := [(hr_, .inl (cI, 64, .inl (zA r))), (hwn, .inl (cI, 96, .inl (zA w)))]) (va_runV (As := []) (rest := [.int (zI cs)]) CF (c_X3_count l D h2 hk ck H.size) (cwV 0 hts gX0_overlapSave_X3_count rfl rfl rfl (by decide +kernel) ⟨Nat.le_of_ble_eq_true rfl, Nat.le_of_ble_eq_true rfl⟩) (z_preV (va_recv hK hR (ci := 2) (q0 := 3) rfl rfl) z_nilP (z_nilD (A := A)) hRc z_noX (hK.sub (tys' := []) [] rfl)) rfl rfl hl.1 rfl (lv_room (Nat.le_of_ble_eq_true rfl)) dX0_overlapSave_5 ⟨Nat.le_of_ble_eq_true rfl, Nat.le_of_ble_eq_true rfl⟩) hP hS hA (cells' := 0) (slots' := 0) rfl rfl (fun H locs hP hS => ?_)
  have hR := hR0.at hS
  refine z_iadd hx hb dX0_overlapSave_8 ?_
  refine z_iconst hx hb dX0_overlapSave_9 ?_
  refine z_isub hx hb dX0_overlapSave_10 ?_
  refine lv_istore (lv' := [(4, .int (zI ((cs + ck) - 1))), (0, .ref h0), (1, .ref h1), (2, .ref h2), (3, .int (zI bl))]) hx hb dX0_overlapSave_11 hl (by decide) rfl (fun ls hl => ?_)
  have hl := lv_sub hl [1, 2, 3, 4, 0] rfl
  have hl : lv_has ls 7 [(0, .ref h0), (1, .ref h1), (2, .ref h2), (3, .int (zI bl)), (4, .int (zI ((cs + ck) - 1)))] := hl
  refine lv_iload_n hx hb dX0_overlapSave_13 rfl (lv_at hl 3 rfl) ?_
  refine z_iconst hx hb dX0_overlapSave_14 ?_
  refine z_mmax hx hb (hml.trans hl.1.symm) hown (hts (.methodLink RX0 24 Lib.Math.max.name) (by decide +kernel)) (hts (.static Lib.Math.max.name) (by decide +kernel)) (hts (.initialized "java/lang/Math") (by decide +kernel)) (hts (.code Lib.Math.max.name Lib.Math.max.code 2 (some .int)) (by decide +kernel)) (Nat.le_of_ble_eq_true rfl) (Nat.le_of_ble_eq_true rfl) (Nat.le_of_ble_eq_true rfl) (Nat.le_of_ble_eq_true rfl) (by omega) dX0_overlapSave_15 ?_
  refine z_eqI (b := bl) (by omega) ?_
  refine lv_istore (lv' := [(5, .int (zI bl)), (0, .ref h0), (1, .ref h1), (2, .ref h2), (3, .int (zI bl)), (4, .int (zI ((cs + ck) - 1)))]) hx hb dX0_overlapSave_18 hl (by decide) rfl (fun ls hl => ?_)
  have hl := lv_sub hl [1, 2, 3, 4, 5, 0] rfl
  have hl : lv_has ls 7 [(0, .ref h0), (1, .ref h1), (2, .ref h2), (3, .int (zI bl)), (4, .int (zI ((cs + ck) - 1))), (5, .int (zI bl))] := hl
  refine z_iconst hx hb dX0_overlapSave_20 ?_
  refine lv_istore (lv' := [(6, .int (zI 0)), (0, .ref h0), (1, .ref h1), (2, .ref h2), (3, .int (zI bl)), (4, .int (zI ((cs + ck) - 1))), (5, .int (zI bl))]) hx hb dX0_overlapSave_21 hl (by decide) rfl (fun ls hl => ?_)
  have hl := lv_sub hl [1, 2, 3, 4, 5, 6, 0] rfl
  have hl : lv_has ls 7 [(0, .ref h0), (1, .ref h1), (2, .ref h2), (3, .int (zI bl)), (4, .int (zI ((cs + ck) - 1))), (5, .int (zI bl)), (6, .int (zI 0))] := hl
  refine z_loop (σ := Int × (Int → Int) × (Int → Int)) (fun (j, r2, w2) => (96 - j).toNat) (fun (j, r2, w2) H locs ls => (0 ≤ j ∧ j ≤ 96) ∧ (∀ k, 0 ≤ k → k < min j (cs + ck - 1) → r2 k = lin a cs b ck k) ∧ va_P D vwCl [(hr_, .inl (cI, 64, .inl (zA r2))), (hwn, .inl (cI, 96, .inl (zA w2)))] H ∧ va_D A [(hr_, .inl (cI, 64, .inl (zA r2))), (hwn, .inl (cI, 96, .inl (zA w2)))] ∧ va_S A s.heap H locs ∧ lv_has ls 7 [(0, .ref h0), (1, .ref h1), (2, .ref h2), (3, .int (zI bl)), (4, .int (zI ((cs + ck) - 1))), (5, .int (zI bl)), (6, .int (zI j))]) (0, r, w) ⟨(by omega), (fun k h1 h2 => absurd h2 (by omega)), hP, hD, hS, hl⟩ ?_
  intro ⟨j, r2, w2⟩ H locs ls hI ih_23
  obtain ⟨hj, hf, hP, hD, hS, hl⟩ := hI
  have hR := hR0.at hS
  refine lv_iload hx hb dX0_overlapSave_23 (lv_at hl 6 rfl) ?_
  refine lv_iload hx hb dX0_overlapSave_25 (lv_at hl 4 rfl) ?_
  refine z_icmp_ge (tgt := 58) hx hb dX0_overlapSave_27 (by decide) (by omega) (fun c_27 => ?_) (fun c_27 => ?_)
  · exact z_vret hx hb hr hlocks (r2, w2) rfl (fun k h1 h2 => hf k h1 (by omega)) hP hD hS dX0_overlapSave_58
  · refine lv_aload_n hx hb dX0_overlapSave_30 rfl (lv_at hl 0 rfl) ?_
    refine lv_aload_n hx hb dX0_overlapSave_31 rfl (lv_at hl 1 rfl) ?_
    refine lv_aload_n hx hb dX0_overlapSave_32 rfl (lv_at hl 2 rfl) ?_
    refine lv_iload hx hb dX0_overlapSave_33 (lv_at hl 6 rfl) ?_
    refine lv_iload hx hb dX0_overlapSave_35 (lv_at hl 6 rfl) ?_
    refine lv_iload hx hb dX0_overlapSave_37 (lv_at hl 5 rfl) ?_
    refine z_iadd hx hb dX0_overlapSave_39 ?_
    refine lv_iload hx hb dX0_overlapSave_40 (lv_at hl 4 rfl) ?_
    refine z_mmin hx hb (hml.trans hl.1.symm) hown (hts (.methodLink RX0 36 Lib.Math.min.name) (by decide +kernel)) (hts (.static Lib.Math.min.name) (by decide +kernel)) (hts (.initialized "java/lang/Math") (by decide +kernel)) (hts (.code Lib.Math.min.name Lib.Math.min.code 2 (some .int)) (by decide +kernel)) (Nat.le_of_ble_eq_true rfl) (Nat.le_of_ble_eq_true rfl) (Nat.le_of_ble_eq_true rfl) (Nat.le_of_ble_eq_true rfl) (by omega) dX0_overlapSave_42 ?_
    have hRc := z_subR (ws := [(hr_, .inl (cI, 64, .inl (zA r2))), (hwn, .inl (cI, 96, .inl (zA w2)))]) (rs := [(h0, .inr (0, [.ref hr_, .ref hwn])), (h1, .inr (2, [.ref hs, .int (zI cs)])), (hs, .inl (cI, 64, .inl (zA a))), (h2, .inr (2, [.ref hk, .int (zI ck)])), (hk, .inl (cI, 64, .inl (zA b)))]) (rc := [(h0, .inr (0, [.ref hr_, .ref hwn])), (h1, .inr (2, [.ref hs, .int (zI cs)])), (hs, .inl (cI, 64, .inl (zA a))), (h2, .inr (2, [.ref hk, .int (zI ck)])), (hk, .inl (cI, 64, .inl (zA b)))]) hP hR (isR := [2, 3, 4, 5, 6]) rfl
    have hPc := hP.sub (ws' := [(hr_, .inl (cI, 64, .inl (zA r2))), (hwn, .inl (cI, 96, .inl (zA w2)))]) [0, 1] rfl
    have hDc := hD.sub (ws' := [(hr_, .inl (cI, 64, .inl (zA r2))), (hwn, .inl (cI, 96, .inl (zA w2)))]) [0, 1] (by decide) rfl
    refine z_mu (ws := [(hr_, .inl (cI, 64, .inl (zA r2))), (hwn, .inl (cI, 96, .inl (zA w2)))]) (wc := [(hr_, .inl (cI, 64, .inl (zA r2))), (hwn, .inl (cI, 96, .inl (zA w2)))]) (wr := []) (va_runV (As := [.ref h1, .ref h2, .int (zI j), .int (zI (min (j + bl) ((cs + ck) - 1)))]) (rest := []) CF (c_X0_saveBlock l D cI h0 hr_ hwn r2 w2 h1 hs cs a h2 hk ck b j (min (j + bl) ((cs + ck) - 1)) (by omega) (by omega) (by omega) (by omega) H.size) (cwV 4 hts gX0_overlapSave_X0_saveBlock rfl rfl rfl (by decide +kernel) ⟨Nat.le_of_ble_eq_true rfl, Nat.le_of_ble_eq_true rfl⟩) (z_preV (va_recv hK hR (ci := 0) (q0 := 0) rfl rfl) hPc hDc hRc (z_dis (ws := [(hr_, .inl (cI, 64, .inl (zA r2))), (hwn, .inl (cI, 96, .inl (zA w2)))]) (rs := [(h0, .inr (0, [.ref hr_, .ref hwn])), (h1, .inr (2, [.ref hs, .int (zI cs)])), (hs, .inl (cI, 64, .inl (zA a))), (h2, .inr (2, [.ref hk, .int (zI ck)])), (hk, .inl (cI, 64, .inl (zA b)))]) (wc := [(hr_, .inl (cI, 64, .inl (zA r2))), (hwn, .inl (cI, 96, .inl (zA w2)))]) (rc := [(h0, .inr (0, [.ref hr_, .ref hwn])), (h1, .inr (2, [.ref hs, .int (zI cs)])), (hs, .inl (cI, 64, .inl (zA a))), (h2, .inr (2, [.ref hk, .int (zI ck)])), (hk, .inl (cI, 64, .inl (zA b)))]) hD hR0 (isC := [0, 1]) (isR := [2, 3, 4, 5, 6]) rfl rfl (by decide)) (hK.sub (tys' := [(cI, .int)]) [0] rfl)) rfl rfl hl.1 rfl (lv_room (Nat.le_of_ble_eq_true rfl)) dX0_overlapSave_45 ⟨Nat.le_of_ble_eq_true rfl, Nat.le_of_ble_eq_true rfl⟩) hP hD hS hA [0, 1] [] rfl rfl (by decide) (by decide) (cells' := 0) (slots' := 0) rfl rfl (fun u_45 H locs hp_45 hP hD hS => ?_)
    obtain ⟨r2_45, w2_45⟩ := u_45
    have hp_45 : (∀ k, 0 ≤ k → k < 64 → r2_45 k = if j ≤ k ∧ k < (min (j + bl) ((cs + ck) - 1)) then lin b ck a cs k else r2 k) := hp_45
    have hP := hP.sub (ws' := [(hr_, .inl (cI, 64, .inl (zA r2_45))), (hwn, .inl (cI, 96, .inl (zA w2_45)))]) [0, 1] rfl
    have hD := hD.sub (ws' := [(hr_, .inl (cI, 64, .inl (zA r2_45))), (hwn, .inl (cI, 96, .inl (zA w2_45)))]) [0, 1] (by decide) rfl
    have hR := hR0.at hS
    refine lv_iload hx hb dX0_overlapSave_48 (lv_at hl 6 rfl) ?_
    refine lv_iload hx hb dX0_overlapSave_50 (lv_at hl 5 rfl) ?_
    refine z_iadd hx hb dX0_overlapSave_52 ?_
    refine lv_istore (lv' := [(6, .int (zI (j + bl))), (0, .ref h0), (1, .ref h1), (2, .ref h2), (3, .int (zI bl)), (4, .int (zI ((cs + ck) - 1))), (5, .int (zI bl))]) hx hb dX0_overlapSave_53 hl (by decide) rfl (fun ls hl => ?_)
    have hl := lv_sub hl [1, 2, 3, 4, 5, 6, 0] rfl
    have hl : lv_has ls 7 [(0, .ref h0), (1, .ref h1), (2, .ref h2), (3, .int (zI bl)), (4, .int (zI ((cs + ck) - 1))), (5, .int (zI bl)), (6, .int (zI (j + bl)))] := hl
    refine lv_goto (tgt := 23) hx hb dX0_overlapSave_55 (by decide) ?_
    exact ih_23 (j + bl, r2_45, w2_45) _ _ _ ⟨(by omega), (by exact fun k h1 h2 => by rw [hp_45 k h1 (by omega)]; by_cases q : j ≤ k ∧ k < min (j + bl) (cs + ck - 1); (rw [if_pos q]; exact lin_comm (by omega) (by omega) h1); (rw [if_neg q]; exact hf k h1 (by omega))), hP, hD, hS, hl⟩ (by show (96 - (j + bl)).toNat < (96 - j).toNat; omega)

set_option maxHeartbeats 4000000 in
set_option maxRecDepth 100000 in
theorem c_X0_product (l : Launch) (D : va_G) (cI : ClassId) (h0 : Nat) (hr_ : Nat) (hwn : Nat) (r : Int → Int) (h1 : Nat) (hs : Nat) (cs : Int) (a : Int → Int) (h2 : Nat) (hk : Nat) (ck : Int) (b : Int → Int) (hcs : 1 ≤ cs ∧ cs ≤ 64) (hck : 1 ≤ ck ∧ ck ≤ 64) (htot : cs + ck ≤ 64) (had : ∀ j, 0 ≤ j → j < cs → 0 ≤ a j ∧ a j ≤ 9) (hbd : ∀ j, 0 ≤ j → j < ck → 0 ≤ b j ∧ b j ≤ 9) : zC l yX0_product wsX0_product ({ frames := 2, cells := 0, slots := 0, locals := 47 } : Room) D [(cI, .int)] [(hr_, .inl (cI, 64, .inl (zA r)))] [(h0, .inr (0, [.ref hr_, .ref hwn])), (h1, .inr (2, [.ref hs, .int (zI cs)])), (hs, .inl (cI, 64, .inl (zA a))), (h2, .inr (2, [.ref hk, .int (zI ck)])), (hk, .inl (cI, 64, .inl (zA b)))] [.ref h0, .ref h1, .ref h2] (S := Int → Int) (fun r2 => ∀ k, 0 ≤ k → k < cs + ck → r2 k = dgI (lin a cs b ck) k) (fun r2 => some (.int (zI (ndI (lin a cs b ck) (cs + ck))))) (fun r2 => [(hr_, .inl (cI, 64, .inl (zA r2)))]) := by
  have hLn : ∀ k, 0 ≤ k → 0 ≤ (lin a cs b ck) k ∧ (lin a cs b ck) k ≤ 5184 := fun k _ => lin_nn (by omega) had hbd
  refine z_start (cc := cX0_product) (maxL := 6) (ret := (some .int)) (own := RX0) (by decide) rfl rfl (Nat.le_of_ble_eq_true rfl) [(0, .ref h0), (1, .ref h1), (2, .ref h2)] rfl ?_
  intro pp ee s mm below meth cc A H ls hx hb hr hml hts hown hlocks hin hK hA hP hD hS hR0 hR hl
  have CF : CallFix pp mm cc cX0_product 6 s ([.ref h0, .ref h1, .ref h2] : List Value).toArray wsX0_product RX0 := ⟨hx, hb, hml, hown, hts⟩
  have hi0 : ∀ w ∈ wsX00, w ∈ wsX0_product := by decide +kernel
  refine lv_aload_n hx hb dX0_product_0 rfl (lv_at hl 0 rfl) ?_
  refine va_get (D := D) (ci := 0) (C := RX0) (T := TX0) (N := 2) hx hb hts hi0 hown hK hR 0 rfl rfl 0 (by decide) (hts (.fieldLink RX0 9 "ButterflyYard$Convolver" "results" "[I") (by decide +kernel)) (fun _ h9 => h9) rfl dX0_product_1 ?_
  refine z_iconst hx hb dX0_product_4 ?_
  have hRc : va_P D vwCl [] H := z_nilP
  have hPc := hP.sub (ws' := [(hr_, .inl (cI, 64, .inl (zA r)))]) [0] rfl
  have hDc := hD.sub (ws' := [(hr_, .inl (cI, 64, .inl (zA r)))]) [0] (by decide) rfl
  refine z_mu (ws := [(hr_, .inl (cI, 64, .inl (zA r)))]) (wc := [(hr_, .inl (cI, 64, .inl (zA r)))]) (wr := []) (va_runS (As := [.ref hr_, .int (zI 0)]) (rest := []) CF (c_J7_fill l D cI hr_ r 0 H.size) (va_cwS 2 hts gX0_product_J7_fill_53178 rfl rfl rfl (by decide +kernel) ⟨Nat.le_of_ble_eq_true rfl, Nat.le_of_ble_eq_true rfl⟩) (z_preS hPc hDc hRc (z_dis (ws := [(hr_, .inl (cI, 64, .inl (zA r)))]) (rs := [(h0, .inr (0, [.ref hr_, .ref hwn])), (h1, .inr (2, [.ref hs, .int (zI cs)])), (hs, .inl (cI, 64, .inl (zA a))), (h2, .inr (2, [.ref hk, .int (zI ck)])), (hk, .inl (cI, 64, .inl (zA b)))]) (wc := [(hr_, .inl (cI, 64, .inl (zA r)))]) (rc := []) hD hR0 (isC := [0]) (isR := []) rfl rfl (by decide)) (hK.sub (tys' := [(cI, .int)]) [0] rfl)) rfl rfl hl.1 rfl (lv_room (Nat.le_of_ble_eq_true rfl)) dX0_product_5 ⟨Nat.le_of_ble_eq_true rfl, Nat.le_of_ble_eq_true rfl⟩) hP hD hS hA [0] [] rfl rfl (by decide) (by decide) (cells' := 0) (slots' := 0) rfl rfl (fun u_5 H locs hp_5 hP hD hS => ?_)
  revert hp_5 hP hD
  generalize u_5 = g2_5
  intro hp_5 hP hD
  have hp_5 : ∀ k, 0 ≤ k → k < 64 → g2_5 k = 0 := hp_5
  have hP := hP.sub (ws' := [(hr_, .inl (cI, 64, .inl (zA g2_5)))]) [0] rfl
  have hD := hD.sub (ws' := [(hr_, .inl (cI, 64, .inl (zA g2_5)))]) [0] (by decide) rfl
  have hR := hR0.at hS
  refine lv_aload_n hx hb dX0_product_8 rfl (lv_at hl 0 rfl) ?_
  refine lv_aload_n hx hb dX0_product_9 rfl (lv_at hl 1 rfl) ?_
  refine z_iconst hx hb dX0_product_10 ?_
  refine lv_aload_n hx hb dX0_product_11 rfl (lv_at hl 1 rfl) ?_
  have hRc := z_subR (ws := [(hr_, .inl (cI, 64, .inl (zA g2_5)))]) (rs := [(h0, .inr (0, [.ref hr_, .ref hwn])), (h1, .inr (2, [.ref hs, .int (zI cs)])), (hs, .inl (cI, 64, .inl (zA a))), (h2, .inr (2, [.ref hk, .int (zI ck)])), (hk, .inl (cI, 64, .inl (zA b)))]) (rc := [(h1, .inr (2, [.ref hs, .int (zI cs)]))]) hP hR (isR := [2]) rfl
  refine z_ro (ws := [(hr_, .inl (cI, 64, .inl (zA g2_5)))]) (va_runV (As := []) (rest := [.int (zI 0), .ref h1, .ref h0]) CF (c_X3_count l D h1 hs cs H.size) (cwV 0 hts gX0_product_X3_count rfl rfl rfl (by decide +kernel) ⟨Nat.le_of_ble_eq_true rfl, Nat.le_of_ble_eq_true rfl⟩) (z_preV (va_recv hK hR (ci := 2) (q0 := 1) rfl rfl) z_nilP (z_nilD (A := A)) hRc z_noX (hK.sub (tys' := []) [] rfl)) rfl rfl hl.1 rfl (lv_room (Nat.le_of_ble_eq_true rfl)) dX0_product_12 ⟨Nat.le_of_ble_eq_true rfl, Nat.le_of_ble_eq_true rfl⟩) hP hS hA (cells' := 0) (slots' := 0) rfl rfl (fun H locs hP hS => ?_)
  have hR := hR0.at hS
  refine lv_aload_n hx hb dX0_product_15 rfl (lv_at hl 2 rfl) ?_
  have hRc := z_subR (ws := [(hr_, .inl (cI, 64, .inl (zA g2_5)))]) (rs := [(h0, .inr (0, [.ref hr_, .ref hwn])), (h1, .inr (2, [.ref hs, .int (zI cs)])), (hs, .inl (cI, 64, .inl (zA a))), (h2, .inr (2, [.ref hk, .int (zI ck)])), (hk, .inl (cI, 64, .inl (zA b)))]) (rc := [(h0, .inr (0, [.ref hr_, .ref hwn])), (h1, .inr (2, [.ref hs, .int (zI cs)])), (hs, .inl (cI, 64, .inl (zA a))), (h2, .inr (2, [.ref hk, .int (zI ck)])), (hk, .inl (cI, 64, .inl (zA b)))]) hP hR (isR := [1, 2, 3, 4, 5]) rfl
  have hPc := hP.sub (ws' := [(hr_, .inl (cI, 64, .inl (zA g2_5)))]) [0] rfl
  have hDc := hD.sub (ws' := [(hr_, .inl (cI, 64, .inl (zA g2_5)))]) [0] (by decide) rfl
  refine z_mu (ws := [(hr_, .inl (cI, 64, .inl (zA g2_5)))]) (wc := [(hr_, .inl (cI, 64, .inl (zA g2_5)))]) (wr := []) (va_runV (As := [.ref h1, .int (zI 0), .int (zI cs), .ref h2]) (rest := []) CF (c_X0_addProducts l D cI h0 hr_ hwn g2_5 h1 hs cs a h2 hk ck b 0 cs (by omega) (by omega) (by omega) (by omega) H.size) (cwV 4 hts gX0_product_X0_addProducts rfl rfl rfl (by decide +kernel) ⟨Nat.le_of_ble_eq_true rfl, Nat.le_of_ble_eq_true rfl⟩) (z_preV (va_recv hK hR (ci := 0) (q0 := 0) rfl rfl) hPc hDc hRc (z_dis (ws := [(hr_, .inl (cI, 64, .inl (zA g2_5)))]) (rs := [(h0, .inr (0, [.ref hr_, .ref hwn])), (h1, .inr (2, [.ref hs, .int (zI cs)])), (hs, .inl (cI, 64, .inl (zA a))), (h2, .inr (2, [.ref hk, .int (zI ck)])), (hk, .inl (cI, 64, .inl (zA b)))]) (wc := [(hr_, .inl (cI, 64, .inl (zA g2_5)))]) (rc := [(h0, .inr (0, [.ref hr_, .ref hwn])), (h1, .inr (2, [.ref hs, .int (zI cs)])), (hs, .inl (cI, 64, .inl (zA a))), (h2, .inr (2, [.ref hk, .int (zI ck)])), (hk, .inl (cI, 64, .inl (zA b)))]) hD hR0 (isC := [0]) (isR := [1, 2, 3, 4, 5]) rfl rfl (by decide)) (hK.sub (tys' := [(cI, .int)]) [0] rfl)) rfl rfl hl.1 rfl (lv_room (Nat.le_of_ble_eq_true rfl)) dX0_product_16 ⟨Nat.le_of_ble_eq_true rfl, Nat.le_of_ble_eq_true rfl⟩) hP hD hS hA [0] [] rfl rfl (by decide) (by decide) (cells' := 0) (slots' := 0) rfl rfl (fun u_16 H locs hp_16 hP hD hS => ?_)
  revert hp_16 hP hD
  generalize u_16 = r2_16
  intro hp_16 hP hD
  have hp_16 : ∀ k, 0 ≤ k → k < 64 → r2_16 k = g2_5 k + (zT (fun j => rowAt a cs j * rowAt b ck (k - j)) cs - zT (fun j => rowAt a cs j * rowAt b ck (k - j)) 0) := hp_16
  have hP := hP.sub (ws' := [(hr_, .inl (cI, 64, .inl (zA r2_16)))]) [0] rfl
  have hD := hD.sub (ws' := [(hr_, .inl (cI, 64, .inl (zA r2_16)))]) [0] (by decide) rfl
  have hR := hR0.at hS
  refine z_iconst hx hb dX0_product_19 ?_
  refine lv_istore_n (lv' := [(3, .int (zI 0)), (0, .ref h0), (1, .ref h1), (2, .ref h2)]) hx hb dX0_product_20 rfl hl (by decide) rfl (fun ls hl => ?_)
  have hl := lv_sub hl [1, 2, 3, 0] rfl
  have hl : lv_has ls 6 [(0, .ref h0), (1, .ref h1), (2, .ref h2), (3, .int (zI 0))] := hl
  refine z_iconst hx hb dX0_product_21 ?_
  refine lv_istore (lv' := [(4, .int (zI 1)), (0, .ref h0), (1, .ref h1), (2, .ref h2), (3, .int (zI 0))]) hx hb dX0_product_22 hl (by decide) rfl (fun ls hl => ?_)
  have hl := lv_sub hl [1, 2, 3, 4, 0] rfl
  have hl : lv_has ls 6 [(0, .ref h0), (1, .ref h1), (2, .ref h2), (3, .int (zI 0)), (4, .int (zI 1))] := hl
  refine z_iconst hx hb dX0_product_24 ?_
  refine lv_istore (lv' := [(5, .int (zI 0)), (0, .ref h0), (1, .ref h1), (2, .ref h2), (3, .int (zI 0)), (4, .int (zI 1))]) hx hb dX0_product_25 hl (by decide) rfl (fun ls hl => ?_)
  have hl := lv_sub hl [1, 2, 3, 4, 5, 0] rfl
  have hl : lv_has ls 6 [(0, .ref h0), (1, .ref h1), (2, .ref h2), (3, .int (zI 0)), (4, .int (zI 1)), (5, .int (zI 0))] := hl
  refine z_loop (σ := Int × Int × Int × (Int → Int)) (fun (cy, d, i, r2) => (cs + ck - i).toNat) (fun (cy, d, i, r2) H locs ls => (0 ≤ i ∧ i ≤ cs + ck) ∧ cy = cyI (lin a cs b ck) i ∧ d = ndI (lin a cs b ck) i ∧ (∀ k, 0 ≤ k → k < i → r2 k = dgI (lin a cs b ck) k) ∧ (∀ k, i ≤ k → k < 64 → r2 k = (lin a cs b ck) k) ∧ va_P D vwCl [(hr_, .inl (cI, 64, .inl (zA r2)))] H ∧ va_D A [(hr_, .inl (cI, 64, .inl (zA r2)))] ∧ va_S A s.heap H locs ∧ lv_has ls 6 [(0, .ref h0), (1, .ref h1), (2, .ref h2), (3, .int (zI cy)), (4, .int (zI d)), (5, .int (zI i))]) (0, 1, 0, r2_16) ⟨(by omega), (by rfl), (by rfl), (fun k h1 h2 => absurd h2 (by omega)), (fun k h1 h2 => by rw [hp_16 k h1 h2, hp_5 k h1 h2, zT_0]; show 0 + (lin a cs b ck k - 0) = _; omega), hP, hD, hS, hl⟩ ?_
  intro ⟨cy, d, i, r2⟩ H locs ls hI ih_27
  obtain ⟨hi_, hcy, hd_, hf, hkp, hP, hD, hS, hl⟩ := hI
  have hR := hR0.at hS
  refine lv_iload hx hb dX0_product_27 (lv_at hl 5 rfl) ?_
  refine lv_aload_n hx hb dX0_product_29 rfl (lv_at hl 1 rfl) ?_
  have hRc := z_subR (ws := [(hr_, .inl (cI, 64, .inl (zA r2)))]) (rs := [(h0, .inr (0, [.ref hr_, .ref hwn])), (h1, .inr (2, [.ref hs, .int (zI cs)])), (hs, .inl (cI, 64, .inl (zA a))), (h2, .inr (2, [.ref hk, .int (zI ck)])), (hk, .inl (cI, 64, .inl (zA b)))]) (rc := [(h1, .inr (2, [.ref hs, .int (zI cs)]))]) hP hR (isR := [2]) rfl
  refine z_ro (ws := [(hr_, .inl (cI, 64, .inl (zA r2)))]) (va_runV (As := []) (rest := [.int (zI i)]) CF (c_X3_count l D h1 hs cs H.size) (cwV 0 hts gX0_product_X3_count rfl rfl rfl (by decide +kernel) ⟨Nat.le_of_ble_eq_true rfl, Nat.le_of_ble_eq_true rfl⟩) (z_preV (va_recv hK hR (ci := 2) (q0 := 1) rfl rfl) z_nilP (z_nilD (A := A)) hRc z_noX (hK.sub (tys' := []) [] rfl)) rfl rfl hl.1 rfl (lv_room (Nat.le_of_ble_eq_true rfl)) dX0_product_30 ⟨Nat.le_of_ble_eq_true rfl, Nat.le_of_ble_eq_true rfl⟩) hP hS hA (cells' := 0) (slots' := 0) rfl rfl (fun H locs hP hS => ?_)
  have hR := hR0.at hS
  refine lv_aload_n hx hb dX0_product_33 rfl (lv_at hl 2 rfl) ?_
  have hRc := z_subR (ws := [(hr_, .inl (cI, 64, .inl (zA r2)))]) (rs := [(h0, .inr (0, [.ref hr_, .ref hwn])), (h1, .inr (2, [.ref hs, .int (zI cs)])), (hs, .inl (cI, 64, .inl (zA a))), (h2, .inr (2, [.ref hk, .int (zI ck)])), (hk, .inl (cI, 64, .inl (zA b)))]) (rc := [(h2, .inr (2, [.ref hk, .int (zI ck)]))]) hP hR (isR := [4]) rfl
  refine z_ro (ws := [(hr_, .inl (cI, 64, .inl (zA r2)))]) (va_runV (As := []) (rest := [.int (zI cs), .int (zI i)]) CF (c_X3_count l D h2 hk ck H.size) (cwV 0 hts gX0_product_X3_count rfl rfl rfl (by decide +kernel) ⟨Nat.le_of_ble_eq_true rfl, Nat.le_of_ble_eq_true rfl⟩) (z_preV (va_recv hK hR (ci := 2) (q0 := 3) rfl rfl) z_nilP (z_nilD (A := A)) hRc z_noX (hK.sub (tys' := []) [] rfl)) rfl rfl hl.1 rfl (lv_room (Nat.le_of_ble_eq_true rfl)) dX0_product_34 ⟨Nat.le_of_ble_eq_true rfl, Nat.le_of_ble_eq_true rfl⟩) hP hS hA (cells' := 0) (slots' := 0) rfl rfl (fun H locs hP hS => ?_)
  have hR := hR0.at hS
  refine z_iadd hx hb dX0_product_37 ?_
  refine z_icmp_ge (tgt := 89) hx hb dX0_product_38 (by decide) (by omega) (fun c_38 => ?_) (fun c_38 => ?_)
  · refine lv_iload hx hb dX0_product_89 (lv_at hl 4 rfl) ?_
    have hres : ndI (lin a cs b ck) (cs + ck) = d := by rw [hd_, show i = cs + ck by omega]
    exact z_iret hx hb hr hlocks rfl r2 (congrArg (fun z => some (Value.int (zI z))) hres) (fun k h1 h2 => hf k h1 (by omega)) hP hD hS dX0_product_91
  · refine lv_iload_n hx hb dX0_product_41 rfl (lv_at hl 3 rfl) ?_
    refine lv_aload_n hx hb dX0_product_42 rfl (lv_at hl 0 rfl) ?_
    refine va_get (D := D) (ci := 0) (C := RX0) (T := TX0) (N := 2) hx hb hts hi0 hown hK hR 0 rfl rfl 0 (by decide) (hts (.fieldLink RX0 9 "ButterflyYard$Convolver" "results" "[I") (by decide +kernel)) (fun _ h9 => h9) rfl dX0_product_43 ?_
    refine lv_iload hx hb dX0_product_46 (lv_at hl 5 rfl) ?_
    have hr2 := hkp i (by omega) (by omega)
    have hci := cyI_rng hLn i (by omega)
    rw [← hcy] at hci
    have hli := hLn i (by omega)
    rw [← hr2] at hli
    refine z_iald (cA := cI) (n := 64) (g := r2) hx hb hK hP 0 0 rfl rfl rfl (by omega) dX0_product_48 ?_
    refine z_iadd hx hb dX0_product_49 ?_
    refine lv_istore_n (lv' := [(3, .int (zI (cy + (r2 i)))), (0, .ref h0), (1, .ref h1), (2, .ref h2), (4, .int (zI d)), (5, .int (zI i))]) hx hb dX0_product_50 rfl hl (by decide) rfl (fun ls hl => ?_)
    have hl := lv_sub hl [1, 2, 3, 0, 4, 5] rfl
    have hl : lv_has ls 6 [(0, .ref h0), (1, .ref h1), (2, .ref h2), (3, .int (zI (cy + (r2 i)))), (4, .int (zI d)), (5, .int (zI i))] := hl
    refine lv_aload_n hx hb dX0_product_51 rfl (lv_at hl 0 rfl) ?_
    refine va_get (D := D) (ci := 0) (C := RX0) (T := TX0) (N := 2) hx hb hts hi0 hown hK hR 0 rfl rfl 0 (by decide) (hts (.fieldLink RX0 9 "ButterflyYard$Convolver" "results" "[I") (by decide +kernel)) (fun _ h9 => h9) rfl dX0_product_52 ?_
    refine lv_iload hx hb dX0_product_55 (lv_at hl 5 rfl) ?_
    refine lv_iload_n hx hb dX0_product_57 rfl (lv_at hl 3 rfl) ?_
    refine z_bipush hx hb dX0_product_58 (by decide) ?_
    refine z_irem hx hb dX0_product_60 (by omega) (by omega) ?_
    have hm_60 := z_rem (a := cy + (r2 i)) (n := 10) (by omega)
    refine z_iast (cA := cI) (n := 64) (g := r2) (i := i) (v := (cy + (r2 i)) % 10) hx hb hK hP hD hS 0 0 rfl rfl rfl (by omega) dX0_product_61 (fun H locs hP hD hS => ?_)
    have hP : va_P D vwCl [(hr_, .inl (cI, 64, .inl (zA (zU r2 i ((cy + (r2 i)) % 10)))))] H := hP
    have hD : va_D A [(hr_, .inl (cI, 64, .inl (zA (zU r2 i ((cy + (r2 i)) % 10)))))] := hD
    have hR := hR0.at hS
    refine lv_iload_n hx hb dX0_product_62 rfl (lv_at hl 3 rfl) ?_
    refine z_bipush hx hb dX0_product_63 (by decide) ?_
    refine z_idiv hx hb dX0_product_65 (by omega) (by omega) ?_
    refine lv_istore_n (lv' := [(3, .int (zI ((cy + (r2 i)) / 10))), (0, .ref h0), (1, .ref h1), (2, .ref h2), (4, .int (zI d)), (5, .int (zI i))]) hx hb dX0_product_66 rfl hl (by decide) rfl (fun ls hl => ?_)
    have hl := lv_sub hl [1, 2, 3, 0, 4, 5] rfl
    have hl : lv_has ls 6 [(0, .ref h0), (1, .ref h1), (2, .ref h2), (3, .int (zI ((cy + (r2 i)) / 10))), (4, .int (zI d)), (5, .int (zI i))] := hl
    refine lv_aload_n hx hb dX0_product_67 rfl (lv_at hl 0 rfl) ?_
    refine va_get (D := D) (ci := 0) (C := RX0) (T := TX0) (N := 2) hx hb hts hi0 hown hK hR 0 rfl rfl 0 (by decide) (hts (.fieldLink RX0 9 "ButterflyYard$Convolver" "results" "[I") (by decide +kernel)) (fun _ h9 => h9) rfl dX0_product_68 ?_
    refine lv_iload hx hb dX0_product_71 (lv_at hl 5 rfl) ?_
    refine z_iald (cA := cI) (n := 64) (g := zU r2 i ((cy + (r2 i)) % 10)) hx hb hK hP 0 0 rfl rfl rfl (by omega) dX0_product_73 ?_
    rw [show zU r2 i ((cy + r2 i) % 10) i = (cy + r2 i) % 10 from zU_s _ _ _]
    refine z_if_eq (tgt := 83) hx hb dX0_product_74 (by decide) (by omega) (fun c_74 => ?_) (fun c_74 => ?_)
    · refine lv_iinc (v := zI (i + 1)) (lv' := [(5, .int (zI (i + 1))), (0, .ref h0), (1, .ref h1), (2, .ref h2), (3, .int (zI ((cy + (r2 i)) / 10))), (4, .int (zI d))]) hx hb dX0_product_83 hl (k := 5) rfl (zI_add _ _) (by decide) rfl (fun ls hl => ?_)
      have hl := lv_sub hl [1, 2, 3, 4, 5, 0] rfl
      have hl : lv_has ls 6 [(0, .ref h0), (1, .ref h1), (2, .ref h2), (3, .int (zI ((cy + (r2 i)) / 10))), (4, .int (zI d)), (5, .int (zI (i + 1)))] := hl
      refine lv_goto (tgt := 27) hx hb dX0_product_86 (by decide) ?_
      exact ih_27 ((cy + (r2 i)) / 10, d, i + 1, zU r2 i ((cy + (r2 i)) % 10)) _ _ _ ⟨(by omega), (by rw [cyI_s hi_.1, ← hcy, hr2]), (by rw [ndI_s hi_.1]; unfold dgI; rw [← hcy, ← hr2]; first | rw [if_pos c_74] | (rw [if_neg (by omega)]; exact hd_)), (by exact zU_fill hf (by unfold dgI; rw [← hcy, ← hr2])), (by exact fun k h1 h2 => by rw [zU_n _ _ (by omega)]; exact hkp k (by omega) h2), hP, hD, hS, hl⟩ (by show (cs + ck - (i + 1)).toNat < (cs + ck - i).toNat; omega)
    · refine lv_iload hx hb dX0_product_77 (lv_at hl 5 rfl) ?_
      refine z_iconst hx hb dX0_product_79 ?_
      refine z_iadd hx hb dX0_product_80 ?_
      refine lv_istore (lv' := [(4, .int (zI (i + 1))), (0, .ref h0), (1, .ref h1), (2, .ref h2), (3, .int (zI ((cy + (r2 i)) / 10))), (5, .int (zI i))]) hx hb dX0_product_81 hl (by decide) rfl (fun ls hl => ?_)
      have hl := lv_sub hl [1, 2, 3, 4, 0, 5] rfl
      have hl : lv_has ls 6 [(0, .ref h0), (1, .ref h1), (2, .ref h2), (3, .int (zI ((cy + (r2 i)) / 10))), (4, .int (zI (i + 1))), (5, .int (zI i))] := hl
      refine lv_iinc (v := zI (i + 1)) (lv' := [(5, .int (zI (i + 1))), (0, .ref h0), (1, .ref h1), (2, .ref h2), (3, .int (zI ((cy + (r2 i)) / 10))), (4, .int (zI (i + 1)))]) hx hb dX0_product_83 hl (k := 5) rfl (zI_add _ _) (by decide) rfl (fun ls hl => ?_)
      have hl := lv_sub hl [1, 2, 3, 4, 5, 0] rfl
      have hl : lv_has ls 6 [(0, .ref h0), (1, .ref h1), (2, .ref h2), (3, .int (zI ((cy + (r2 i)) / 10))), (4, .int (zI (i + 1))), (5, .int (zI (i + 1)))] := hl
      refine lv_goto (tgt := 27) hx hb dX0_product_86 (by decide) ?_
      exact ih_27 ((cy + (r2 i)) / 10, i + 1, i + 1, zU r2 i ((cy + (r2 i)) % 10)) _ _ _ ⟨(by omega), (by rw [cyI_s hi_.1, ← hcy, hr2]), (by rw [ndI_s hi_.1]; unfold dgI; rw [← hcy, ← hr2]; first | rw [if_pos c_74] | (rw [if_neg (by omega)]; exact hd_)), (by exact zU_fill hf (by unfold dgI; rw [← hcy, ← hr2])), (by exact fun k h1 h2 => by rw [zU_n _ _ (by omega)]; exact hkp k (by omega) h2), hP, hD, hS, hl⟩ (by show (cs + ck - (i + 1)).toNat < (cs + ck - i).toNat; omega)

