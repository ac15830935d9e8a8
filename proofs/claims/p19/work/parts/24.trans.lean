set_option maxHeartbeats 4000000 in
set_option maxRecDepth 100000 in
theorem c_X4_copyMade (l : Launch) (D : va_G) (cI : ClassId) (h0 : Nat) (qm : Nat) (qg : Nat) (ql : Nat) (qs : Nat) (qc : Nat) (md : Int → Int) (he : Nat) (g : Int → Int) (sz : Int) (hsz : 0 ≤ sz ∧ sz ≤ 64) : zC l yX4_copyMade wsX4_copyMade ({ frames := 0, cells := 0, slots := 0, locals := 0 } : Room) D [(cI, .int)] [(he, .inl (cI, 64, .inl (zA g)))] [(h0, .inr (3, [.ref qm, .ref qg, .ref ql, .ref qs, .ref qc])), (qm, .inl (cI, 64, .inl (zA md)))] [.ref h0, .ref he, .int (zI sz)] (S := Int → Int) (fun g2 => ∀ k, 0 ≤ k → k < sz → g2 k = md k) (fun g2 => none) (fun g2 => [(he, .inl (cI, 64, .inl (zA g2)))]) := by
  refine z_start (cc := cX4_copyMade) (maxL := 4) (ret := none) (own := RX4) (by decide) rfl rfl (Nat.le_of_ble_eq_true rfl) [(0, .ref h0), (1, .ref he), (2, .int (zI sz))] rfl ?_
  intro pp ee s mm below meth cc A H ls hx hb hr hml hts hown hlocks hin hK hA hP hD hS hR0 hR hl
  have CF : CallFix pp mm cc cX4_copyMade 4 s ([.ref h0, .ref he, .int (zI sz)] : List Value).toArray wsX4_copyMade RX4 := ⟨hx, hb, hml, hown, hts⟩
  have hi4 : ∀ w ∈ wsX40, w ∈ wsX4_copyMade := by decide +kernel
  refine z_iconst hx hb dX4_copyMade_0 ?_
  refine lv_istore_n (lv' := [(3, .int (zI 0)), (0, .ref h0), (1, .ref he), (2, .int (zI sz))]) hx hb dX4_copyMade_1 rfl hl (by decide) rfl (fun ls hl => ?_)
  have hl := lv_sub hl [1, 2, 3, 0] rfl
  have hl : lv_has ls 4 [(0, .ref h0), (1, .ref he), (2, .int (zI sz)), (3, .int (zI 0))] := hl
  refine z_loop (σ := Int × (Int → Int)) (fun (i, g2) => (sz - i).toNat) (fun (i, g2) H locs ls => (0 ≤ i ∧ i ≤ sz) ∧ (∀ k, 0 ≤ k → k < i → g2 k = md k) ∧ va_P D vwCl [(he, .inl (cI, 64, .inl (zA g2)))] H ∧ va_D A [(he, .inl (cI, 64, .inl (zA g2)))] ∧ va_S A s.heap H locs ∧ lv_has ls 4 [(0, .ref h0), (1, .ref he), (2, .int (zI sz)), (3, .int (zI i))]) (0, g) ⟨(by omega), (fun k h1 h2 => absurd h2 (by omega)), hP, hD, hS, hl⟩ ?_
  intro ⟨i, g2⟩ H locs ls hI ih_2
  obtain ⟨hi, hf, hP, hD, hS, hl⟩ := hI
  have hR := hR0.at hS
  refine lv_iload_n hx hb dX4_copyMade_2 rfl (lv_at hl 3 rfl) ?_
  refine lv_iload_n hx hb dX4_copyMade_3 rfl (lv_at hl 2 rfl) ?_
  refine z_icmp_ge (tgt := 22) hx hb dX4_copyMade_4 (by decide) (by omega) (fun c_4 => ?_) (fun c_4 => ?_)
  · exact z_vret hx hb hr hlocks g2 rfl (fun k h1 h2 => hf k h1 (by omega)) hP hD hS dX4_copyMade_22
  · refine lv_aload_n hx hb dX4_copyMade_7 rfl (lv_at hl 1 rfl) ?_
    refine lv_iload_n hx hb dX4_copyMade_8 rfl (lv_at hl 3 rfl) ?_
    refine lv_aload_n hx hb dX4_copyMade_9 rfl (lv_at hl 0 rfl) ?_
    refine va_get (D := D) (ci := 3) (C := RX4) (T := TX4) (N := 5) hx hb hts hi4 hown hK hR 0 rfl rfl 0 (by decide) (hts (.fieldLink RX4 9 "ButterflyYard$Transformer" "made" "[I") (by decide +kernel)) (fun _ h9 => h9) rfl dX4_copyMade_10 ?_
    refine lv_iload_n hx hb dX4_copyMade_13 rfl (lv_at hl 3 rfl) ?_
    refine z_iald (cA := cI) (n := 64) (g := md) hx hb hK hR 1 0 rfl rfl rfl (by omega) dX4_copyMade_14 ?_
    refine z_iast (cA := cI) (n := 64) (g := g2) (i := i) (v := md i) hx hb hK hP hD hS 0 0 rfl rfl rfl (by omega) dX4_copyMade_15 (fun H locs hP hD hS => ?_)
    have hP : va_P D vwCl [(he, .inl (cI, 64, .inl (zA (zU g2 i (md i)))))] H := hP
    have hD : va_D A [(he, .inl (cI, 64, .inl (zA (zU g2 i (md i)))))] := hD
    have hR := hR0.at hS
    refine lv_iinc (v := zI (i + 1)) (lv' := [(3, .int (zI (i + 1))), (0, .ref h0), (1, .ref he), (2, .int (zI sz))]) hx hb dX4_copyMade_16 hl (k := 3) rfl (zI_add _ _) (by decide) rfl (fun ls hl => ?_)
    have hl := lv_sub hl [1, 2, 3, 0] rfl
    have hl : lv_has ls 4 [(0, .ref h0), (1, .ref he), (2, .int (zI sz)), (3, .int (zI (i + 1)))] := hl
    refine lv_goto (tgt := 2) hx hb dX4_copyMade_19 (by decide) ?_
    exact ih_2 (i + 1, zU g2 i (md i)) _ _ _ ⟨(by omega), (by exact zU_fill hf rfl), hP, hD, hS, hl⟩ (by show (sz - (i + 1)).toNat < (sz - i).toNat; omega)

set_option maxHeartbeats 4000000 in
set_option maxRecDepth 100000 in
theorem c_X4_transformedEntry (l : Launch) (D : va_G) (cI : ClassId) (h1 : Nat) (p : Int) (n : Int) (iv : Int) (wy : Int) (gn : Int) (hw : Nat) (pw : Int → Int) (he : Nat) (g : Int → Int) (tn : Int) (k : Int) (hC : zCH p n pw) (hg : ∀ j, 0 ≤ j → j < n → 0 ≤ g j ∧ g j < p) (ht : 0 ≤ tn ∧ tn ≤ 4096) (hk : 0 ≤ k ∧ k < n) : zF l yX4_transformedEntry wsX4_transformedEntry ({ frames := 2, cells := 0, slots := 0, locals := 46 } : Room) D [(cI, .int)] [(h1, .inr (1, [.int (zI p), .int (zI n), .int (zI iv), .int (zI wy), .int (zI gn), .ref hw])), (hw, .inl (cI, 64, .inl (zA pw))), (he, .inl (cI, 64, .inl (zA g)))] [.ref h1, .ref he, .int (zI tn), .int (zI k)] (some (.int (zI (dft p n pw n tn g k)))) := by
  have hnp : 1 ≤ n ∧ n ≤ 64 ∧ 2 ≤ p ∧ p ≤ 10000 := ⟨hC.1, hC.2.1, hC.2.2.1, hC.2.2.2.1⟩
  have hpr := hC.2.2.2.2.1
  refine z_start (cc := cX4_transformedEntry) (maxL := 7) (ret := (some .int)) (own := RX4) (by decide) rfl rfl (Nat.le_of_ble_eq_true rfl) [(0, .ref h1), (1, .ref he), (2, .int (zI tn)), (3, .int (zI k))] rfl ?_
  intro pp ee s mm below meth cc A H ls hx hb hr hml hts hown hlocks hin hK hA hP hD hS hR0 hR hl
  have CF : CallFix pp mm cc cX4_transformedEntry 7 s ([.ref h1, .ref he, .int (zI tn), .int (zI k)] : List Value).toArray wsX4_transformedEntry RX4 := ⟨hx, hb, hml, hown, hts⟩
  refine z_lconst0 hx hb dX4_transformedEntry_0 ?_
  refine lv_lstore (lv' := [(4, .long (zL 0)), (0, .ref h1), (1, .ref he), (2, .int (zI tn)), (3, .int (zI k))]) hx hb dX4_transformedEntry_1 hl (by decide) rfl (fun ls hl => ?_)
  have hl := lv_sub hl [1, 2, 3, 4, 0] rfl
  have hl : lv_has ls 7 [(0, .ref h1), (1, .ref he), (2, .int (zI tn)), (3, .int (zI k)), (4, .long (zL 0))] := hl
  refine z_iconst hx hb dX4_transformedEntry_3 ?_
  refine lv_istore (lv' := [(6, .int (zI 0)), (0, .ref h1), (1, .ref he), (2, .int (zI tn)), (3, .int (zI k)), (4, .long (zL 0))]) hx hb dX4_transformedEntry_4 hl (by decide) rfl (fun ls hl => ?_)
  have hl := lv_sub hl [1, 2, 3, 4, 5, 0] rfl
  have hl : lv_has ls 7 [(0, .ref h1), (1, .ref he), (2, .int (zI tn)), (3, .int (zI k)), (4, .long (zL 0)), (6, .int (zI 0))] := hl
  refine z_loop (σ := Int × Int) (fun (t, i) => (n - i).toNat) (fun (t, i) H locs ls => (0 ≤ i ∧ i ≤ n) ∧ t = zT (fun j => g j * pw (tn * j * k % n)) i ∧ (0 ≤ t ∧ t ≤ i * 100000000) ∧ va_S A s.heap H locs ∧ lv_has ls 7 [(0, .ref h1), (1, .ref he), (2, .int (zI tn)), (3, .int (zI k)), (4, .long (zL t)), (6, .int (zI i))]) (0, 0) ⟨(by omega), (by rfl), (by omega), hS, hl⟩ ?_
  intro ⟨t, i⟩ H locs ls hI ih_6
  obtain ⟨hi, ht_, htr, hS, hl⟩ := hI
  have hR := hR0.at hS
  refine lv_iload hx hb dX4_transformedEntry_6 (lv_at hl 5 rfl) ?_
  refine lv_aload_n hx hb dX4_transformedEntry_8 rfl (lv_at hl 0 rfl) ?_
  have hRc := z_subR (ws := []) (rs := [(h1, .inr (1, [.int (zI p), .int (zI n), .int (zI iv), .int (zI wy), .int (zI gn), .ref hw])), (hw, .inl (cI, 64, .inl (zA pw))), (he, .inl (cI, 64, .inl (zA g)))]) (rc := [(h1, .inr (1, [.int (zI p), .int (zI n), .int (zI iv), .int (zI wy), .int (zI gn), .ref hw]))]) z_nilP hR (isR := [0]) rfl
  refine z_ro (ws := []) (va_runV (As := []) (rest := [.int (zI i)]) CF (c_X2_size l D h1 p n iv wy gn hw H.size) (cwV 0 hts gX4_transformedEntry_X2_size rfl rfl rfl (by decide +kernel) ⟨Nat.le_of_ble_eq_true rfl, Nat.le_of_ble_eq_true rfl⟩) (z_preV (va_recv hK hR (ci := 1) (q0 := 0) rfl rfl) z_nilP (z_nilD (A := A)) hRc z_noX (hK.sub (tys' := []) [] rfl)) rfl rfl hl.1 rfl (lv_room (Nat.le_of_ble_eq_true rfl)) dX4_transformedEntry_9 ⟨Nat.le_of_ble_eq_true rfl, Nat.le_of_ble_eq_true rfl⟩) z_nilP hS hA (cells' := 0) (slots' := 0) rfl rfl (fun H locs hP hS => ?_)
  have hR := hR0.at hS
  refine z_icmp_ge (tgt := 43) hx hb dX4_transformedEntry_12 (by decide) (by omega) (fun c_12 => ?_) (fun c_12 => ?_)
  · refine lv_aload_n hx hb dX4_transformedEntry_43 rfl (lv_at hl 0 rfl) ?_
    refine lv_lload hx hb dX4_transformedEntry_44 (lv_at hl 4 rfl) ?_
    have hRc := z_subR (ws := []) (rs := [(h1, .inr (1, [.int (zI p), .int (zI n), .int (zI iv), .int (zI wy), .int (zI gn), .ref hw])), (hw, .inl (cI, 64, .inl (zA pw))), (he, .inl (cI, 64, .inl (zA g)))]) (rc := [(h1, .inr (1, [.int (zI p), .int (zI n), .int (zI iv), .int (zI wy), .int (zI gn), .ref hw]))]) z_nilP hR (isR := [0]) rfl
    refine z_ro (ws := []) (va_runV (As := [.long (zL t)]) (rest := []) CF (c_X2_remainder l D h1 p n iv wy gn hw t (by omega) (by omega) H.size) (cwV 1 hts gX4_transformedEntry_X2_remainder rfl rfl rfl (by decide +kernel) ⟨Nat.le_of_ble_eq_true rfl, Nat.le_of_ble_eq_true rfl⟩) (z_preV (va_recv hK hR (ci := 1) (q0 := 0) rfl rfl) z_nilP (z_nilD (A := A)) hRc z_noX (hK.sub (tys' := []) [] rfl)) rfl rfl hl.1 rfl (lv_room (Nat.le_of_ble_eq_true rfl)) dX4_transformedEntry_46 ⟨Nat.le_of_ble_eq_true rfl, Nat.le_of_ble_eq_true rfl⟩) z_nilP hS hA (cells' := 0) (slots' := 0) rfl rfl (fun H locs hP hS => ?_)
    have hR := hR0.at hS
    have hres : dft p n pw n tn g k = t % p := by unfold dft; rw [ht_, show i = n by omega]
    exact z_iret hx hb hr hlocks rfl () (congrArg (fun z => some (Value.int (zI z))) hres) (trivial) z_nilP z_nilD hS dX4_transformedEntry_49
  · refine lv_lload hx hb dX4_transformedEntry_15 (lv_at hl 4 rfl) ?_
    refine lv_aload_n hx hb dX4_transformedEntry_17 rfl (lv_at hl 1 rfl) ?_
    refine lv_iload hx hb dX4_transformedEntry_18 (lv_at hl 5 rfl) ?_
    refine z_iald (cA := cI) (n := 64) (g := g) hx hb hK hR 2 0 rfl rfl rfl (by omega) dX4_transformedEntry_20 ?_
    have hgi := hg i (by omega) (by omega)
    have hb1 := z_mulb (a := tn) (b := i) (A := 4096) (B := 64) (by omega) (by omega) (by omega) (by omega)
    have hb2 := z_mulb (a := tn * i) (b := k) (A := 262144) (B := 64) (by omega) (by omega) (by omega) (by omega)
    refine z_i2l hx hb dX4_transformedEntry_21 (by omega) ?_
    refine lv_aload_n hx hb dX4_transformedEntry_22 rfl (lv_at hl 0 rfl) ?_
    refine lv_iload_n hx hb dX4_transformedEntry_23 rfl (lv_at hl 2 rfl) ?_
    refine lv_iload hx hb dX4_transformedEntry_24 (lv_at hl 5 rfl) ?_
    refine z_imul hx hb dX4_transformedEntry_26 ?_
    refine lv_iload_n hx hb dX4_transformedEntry_27 rfl (lv_at hl 3 rfl) ?_
    refine z_imul hx hb dX4_transformedEntry_28 ?_
    have hRc := z_subR (ws := []) (rs := [(h1, .inr (1, [.int (zI p), .int (zI n), .int (zI iv), .int (zI wy), .int (zI gn), .ref hw])), (hw, .inl (cI, 64, .inl (zA pw))), (he, .inl (cI, 64, .inl (zA g)))]) (rc := [(h1, .inr (1, [.int (zI p), .int (zI n), .int (zI iv), .int (zI wy), .int (zI gn), .ref hw])), (hw, .inl (cI, 64, .inl (zA pw)))]) z_nilP hR (isR := [0, 1]) rfl
    refine z_ro (ws := []) (va_runV (As := [.int (zI ((tn * i) * k))]) (rest := [.long (zL (g i)), .long (zL t)]) CF (c_X2_power l D cI h1 p n iv wy gn hw pw ((tn * i) * k) (by omega) (by omega) H.size) (cwV 1 hts gX4_transformedEntry_X2_power rfl rfl rfl (by decide +kernel) ⟨Nat.le_of_ble_eq_true rfl, Nat.le_of_ble_eq_true rfl⟩) (z_preV (va_recv hK hR (ci := 1) (q0 := 0) rfl rfl) z_nilP (z_nilD (A := A)) hRc z_noX (hK.sub (tys' := [(cI, .int)]) [0] rfl)) rfl rfl hl.1 rfl (lv_room (Nat.le_of_ble_eq_true rfl)) dX4_transformedEntry_29 ⟨Nat.le_of_ble_eq_true rfl, Nat.le_of_ble_eq_true rfl⟩) z_nilP hS hA (cells' := 0) (slots' := 0) rfl rfl (fun H locs hP hS => ?_)
    have hR := hR0.at hS
    have hpx := hpr (tn * i * k)
    have hb3 := z_mulb (a := g i) (b := pw (tn * i * k % n)) (A := 10000) (B := 10000) (by omega) (by omega) (by omega) (by omega)
    refine z_i2l hx hb dX4_transformedEntry_32 (by omega) ?_
    refine z_lmul hx hb dX4_transformedEntry_33 ?_
    refine z_ladd hx hb dX4_transformedEntry_34 ?_
    refine lv_lstore (lv' := [(4, .long (zL (t + ((g i) * (pw (((tn * i) * k) % n)))))), (0, .ref h1), (1, .ref he), (2, .int (zI tn)), (3, .int (zI k)), (6, .int (zI i))]) hx hb dX4_transformedEntry_35 hl (by decide) rfl (fun ls hl => ?_)
    have hl := lv_sub hl [1, 2, 3, 4, 0, 5] rfl
    have hl : lv_has ls 7 [(0, .ref h1), (1, .ref he), (2, .int (zI tn)), (3, .int (zI k)), (4, .long (zL (t + ((g i) * (pw (((tn * i) * k) % n)))))), (6, .int (zI i))] := hl
    refine lv_iinc (v := zI (i + 1)) (lv' := [(6, .int (zI (i + 1))), (0, .ref h1), (1, .ref he), (2, .int (zI tn)), (3, .int (zI k)), (4, .long (zL (t + ((g i) * (pw (((tn * i) * k) % n))))))]) hx hb dX4_transformedEntry_37 hl (k := 5) rfl (zI_add _ _) (by decide) rfl (fun ls hl => ?_)
    have hl := lv_sub hl [1, 2, 3, 4, 5, 0] rfl
    have hl : lv_has ls 7 [(0, .ref h1), (1, .ref he), (2, .int (zI tn)), (3, .int (zI k)), (4, .long (zL (t + ((g i) * (pw (((tn * i) * k) % n)))))), (6, .int (zI (i + 1)))] := hl
    refine lv_goto (tgt := 6) hx hb dX4_transformedEntry_40 (by decide) ?_
    exact ih_6 (t + ((g i) * (pw (((tn * i) * k) % n))), i + 1) _ _ _ ⟨(by omega), (by rw [ht_, zT_s _ hi.1]), (by omega), hS, hl⟩ (by show (n - (i + 1)).toNat < (n - i).toNat; omega)

set_option maxHeartbeats 4000000 in
set_option maxRecDepth 100000 in
theorem c_X4_bySums (l : Launch) (D : va_G) (cI : ClassId) (h0 : Nat) (qm : Nat) (qg : Nat) (ql : Nat) (qs : Nat) (qc : Nat) (h1 : Nat) (p : Int) (n : Int) (iv : Int) (wy : Int) (gn : Int) (hw : Nat) (pw : Int → Int) (he : Nat) (g : Int → Int) (tn : Int) (md : Int → Int) (hC : zCH p n pw) (hg : ∀ j, 0 ≤ j → j < n → 0 ≤ g j ∧ g j < p) (ht : 0 ≤ tn ∧ tn ≤ 4096) : zC l yX4_bySums wsX4_bySums ({ frames := 3, cells := 0, slots := 0, locals := 72 } : Room) D [(cI, .int)] [(qm, .inl (cI, 64, .inl (zA md))), (he, .inl (cI, 64, .inl (zA g)))] [(h0, .inr (3, [.ref qm, .ref qg, .ref ql, .ref qs, .ref qc])), (h1, .inr (1, [.int (zI p), .int (zI n), .int (zI iv), .int (zI wy), .int (zI gn), .ref hw])), (hw, .inl (cI, 64, .inl (zA pw)))] [.ref h0, .ref h1, .ref he, .int (zI tn)] (S := (Int → Int) × (Int → Int)) (fun (md2, g2) => ∀ k, 0 ≤ k → k < n → g2 k = dft p n pw n tn g k) (fun (md2, g2) => none) (fun (md2, g2) => [(qm, .inl (cI, 64, .inl (zA md2))), (he, .inl (cI, 64, .inl (zA g2)))]) := by
  have hnp : 1 ≤ n ∧ n ≤ 64 ∧ 2 ≤ p ∧ p ≤ 10000 := ⟨hC.1, hC.2.1, hC.2.2.1, hC.2.2.2.1⟩
  have hpr := hC.2.2.2.2.1
  refine z_start (cc := cX4_bySums) (maxL := 5) (ret := none) (own := RX4) (by decide) rfl rfl (Nat.le_of_ble_eq_true rfl) [(0, .ref h0), (1, .ref h1), (2, .ref he), (3, .int (zI tn))] rfl ?_
  intro pp ee s mm below meth cc A H ls hx hb hr hml hts hown hlocks hin hK hA hP hD hS hR0 hR hl
  have CF : CallFix pp mm cc cX4_bySums 5 s ([.ref h0, .ref h1, .ref he, .int (zI tn)] : List Value).toArray wsX4_bySums RX4 := ⟨hx, hb, hml, hown, hts⟩
  have hi4 : ∀ w ∈ wsX40, w ∈ wsX4_bySums := by decide +kernel
  refine z_iconst hx hb dX4_bySums_0 ?_
  refine lv_istore (lv' := [(4, .int (zI 0)), (0, .ref h0), (1, .ref h1), (2, .ref he), (3, .int (zI tn))]) hx hb dX4_bySums_1 hl (by decide) rfl (fun ls hl => ?_)
  have hl := lv_sub hl [1, 2, 3, 4, 0] rfl
  have hl : lv_has ls 5 [(0, .ref h0), (1, .ref h1), (2, .ref he), (3, .int (zI tn)), (4, .int (zI 0))] := hl
  refine z_loop (σ := Int × (Int → Int)) (fun (k, md2) => (n - k).toNat) (fun (k, md2) H locs ls => (0 ≤ k ∧ k ≤ n) ∧ (∀ x, 0 ≤ x → x < k → md2 x = dft p n pw n tn g x) ∧ va_P D vwCl [(qm, .inl (cI, 64, .inl (zA md2))), (he, .inl (cI, 64, .inl (zA g)))] H ∧ va_D A [(qm, .inl (cI, 64, .inl (zA md2))), (he, .inl (cI, 64, .inl (zA g)))] ∧ va_S A s.heap H locs ∧ lv_has ls 5 [(0, .ref h0), (1, .ref h1), (2, .ref he), (3, .int (zI tn)), (4, .int (zI k))]) (0, md) ⟨(by omega), (fun k h1 h2 => absurd h2 (by omega)), hP, hD, hS, hl⟩ ?_
  intro ⟨k, md2⟩ H locs ls hI ih_3
  obtain ⟨hk, hf, hP, hD, hS, hl⟩ := hI
  have hR := hR0.at hS
  refine lv_iload hx hb dX4_bySums_3 (lv_at hl 4 rfl) ?_
  refine lv_aload_n hx hb dX4_bySums_5 rfl (lv_at hl 1 rfl) ?_
  have hRc := z_subR (ws := [(qm, .inl (cI, 64, .inl (zA md2))), (he, .inl (cI, 64, .inl (zA g)))]) (rs := [(h0, .inr (3, [.ref qm, .ref qg, .ref ql, .ref qs, .ref qc])), (h1, .inr (1, [.int (zI p), .int (zI n), .int (zI iv), .int (zI wy), .int (zI gn), .ref hw])), (hw, .inl (cI, 64, .inl (zA pw)))]) (rc := [(h1, .inr (1, [.int (zI p), .int (zI n), .int (zI iv), .int (zI wy), .int (zI gn), .ref hw]))]) hP hR (isR := [3]) rfl
  refine z_ro (ws := [(qm, .inl (cI, 64, .inl (zA md2))), (he, .inl (cI, 64, .inl (zA g)))]) (va_runV (As := []) (rest := [.int (zI k)]) CF (c_X2_size l D h1 p n iv wy gn hw H.size) (cwV 0 hts gX4_bySums_X2_size rfl rfl rfl (by decide +kernel) ⟨Nat.le_of_ble_eq_true rfl, Nat.le_of_ble_eq_true rfl⟩) (z_preV (va_recv hK hR (ci := 1) (q0 := 1) rfl rfl) z_nilP (z_nilD (A := A)) hRc z_noX (hK.sub (tys' := []) [] rfl)) rfl rfl hl.1 rfl (lv_room (Nat.le_of_ble_eq_true rfl)) dX4_bySums_6 ⟨Nat.le_of_ble_eq_true rfl, Nat.le_of_ble_eq_true rfl⟩) hP hS hA (cells' := 0) (slots' := 0) rfl rfl (fun H locs hP hS => ?_)
  have hR := hR0.at hS
  refine z_icmp_ge (tgt := 33) hx hb dX4_bySums_9 (by decide) (by omega) (fun c_9 => ?_) (fun c_9 => ?_)
  · refine lv_aload_n hx hb dX4_bySums_33 rfl (lv_at hl 0 rfl) ?_
    refine lv_aload_n hx hb dX4_bySums_34 rfl (lv_at hl 2 rfl) ?_
    refine lv_aload_n hx hb dX4_bySums_35 rfl (lv_at hl 1 rfl) ?_
    have hRc := z_subR (ws := [(qm, .inl (cI, 64, .inl (zA md2))), (he, .inl (cI, 64, .inl (zA g)))]) (rs := [(h0, .inr (3, [.ref qm, .ref qg, .ref ql, .ref qs, .ref qc])), (h1, .inr (1, [.int (zI p), .int (zI n), .int (zI iv), .int (zI wy), .int (zI gn), .ref hw])), (hw, .inl (cI, 64, .inl (zA pw)))]) (rc := [(h1, .inr (1, [.int (zI p), .int (zI n), .int (zI iv), .int (zI wy), .int (zI gn), .ref hw]))]) hP hR (isR := [3]) rfl
    refine z_ro (ws := [(qm, .inl (cI, 64, .inl (zA md2))), (he, .inl (cI, 64, .inl (zA g)))]) (va_runV (As := []) (rest := [.ref he, .ref h0]) CF (c_X2_size l D h1 p n iv wy gn hw H.size) (cwV 0 hts gX4_bySums_X2_size rfl rfl rfl (by decide +kernel) ⟨Nat.le_of_ble_eq_true rfl, Nat.le_of_ble_eq_true rfl⟩) (z_preV (va_recv hK hR (ci := 1) (q0 := 1) rfl rfl) z_nilP (z_nilD (A := A)) hRc z_noX (hK.sub (tys' := []) [] rfl)) rfl rfl hl.1 rfl (lv_room (Nat.le_of_ble_eq_true rfl)) dX4_bySums_36 ⟨Nat.le_of_ble_eq_true rfl, Nat.le_of_ble_eq_true rfl⟩) hP hS hA (cells' := 0) (slots' := 0) rfl rfl (fun H locs hP hS => ?_)
    have hR := hR0.at hS
    have hRc := z_subR (ws := [(qm, .inl (cI, 64, .inl (zA md2))), (he, .inl (cI, 64, .inl (zA g)))]) (rs := [(h0, .inr (3, [.ref qm, .ref qg, .ref ql, .ref qs, .ref qc])), (h1, .inr (1, [.int (zI p), .int (zI n), .int (zI iv), .int (zI wy), .int (zI gn), .ref hw])), (hw, .inl (cI, 64, .inl (zA pw)))]) (rc := [(h0, .inr (3, [.ref qm, .ref qg, .ref ql, .ref qs, .ref qc])), (qm, .inl (cI, 64, .inl (zA md2)))]) hP hR (isR := [2, 0]) rfl
    have hPc := hP.sub (ws' := [(he, .inl (cI, 64, .inl (zA g)))]) [1] rfl
    have hDc := hD.sub (ws' := [(he, .inl (cI, 64, .inl (zA g)))]) [1] (by decide) rfl
    refine z_mu (ws := [(qm, .inl (cI, 64, .inl (zA md2))), (he, .inl (cI, 64, .inl (zA g)))]) (wc := [(he, .inl (cI, 64, .inl (zA g)))]) (wr := [(qm, .inl (cI, 64, .inl (zA md2)))]) (va_runV (As := [.ref he, .int (zI n)]) (rest := []) CF (c_X4_copyMade l D cI h0 qm qg ql qs qc md2 he g n (by omega) H.size) (cwV 2 hts gX4_bySums_X4_copyMade rfl rfl rfl (by decide +kernel) ⟨Nat.le_of_ble_eq_true rfl, Nat.le_of_ble_eq_true rfl⟩) (z_preV (va_recv hK hR (ci := 3) (q0 := 0) rfl rfl) hPc hDc hRc (z_dis (ws := [(qm, .inl (cI, 64, .inl (zA md2))), (he, .inl (cI, 64, .inl (zA g)))]) (rs := [(h0, .inr (3, [.ref qm, .ref qg, .ref ql, .ref qs, .ref qc])), (h1, .inr (1, [.int (zI p), .int (zI n), .int (zI iv), .int (zI wy), .int (zI gn), .ref hw])), (hw, .inl (cI, 64, .inl (zA pw)))]) (wc := [(he, .inl (cI, 64, .inl (zA g)))]) (rc := [(h0, .inr (3, [.ref qm, .ref qg, .ref ql, .ref qs, .ref qc])), (qm, .inl (cI, 64, .inl (zA md2)))]) hD hR0 (isC := [1]) (isR := [2, 0]) rfl rfl (by decide)) (hK.sub (tys' := [(cI, .int)]) [0] rfl)) rfl rfl hl.1 rfl (lv_room (Nat.le_of_ble_eq_true rfl)) dX4_bySums_39 ⟨Nat.le_of_ble_eq_true rfl, Nat.le_of_ble_eq_true rfl⟩) hP hD hS hA [1] [0] rfl rfl (by decide) (by decide) (cells' := 0) (slots' := 0) rfl rfl (fun u_39 H locs hp_39 hP hD hS => ?_)
    revert hp_39 hP hD
    generalize u_39 = g2_39
    intro hp_39 hP hD
    have hp_39 : ∀ k, 0 ≤ k → k < n → g2_39 k = md2 k := hp_39
    have hP := hP.sub (ws' := [(qm, .inl (cI, 64, .inl (zA md2))), (he, .inl (cI, 64, .inl (zA g2_39)))]) [0, 1] rfl
    have hD := hD.sub (ws' := [(qm, .inl (cI, 64, .inl (zA md2))), (he, .inl (cI, 64, .inl (zA g2_39)))]) [0, 1] (by decide) rfl
    have hR := hR0.at hS
    exact z_vret hx hb hr hlocks (md2, g2_39) rfl (fun x h1 h2 => by show g2_39 x = _; rw [hp_39 x h1 h2]; exact hf x h1 (by omega)) hP hD hS dX4_bySums_42
  · refine lv_aload_n hx hb dX4_bySums_12 rfl (lv_at hl 0 rfl) ?_
    refine va_get (D := D) (ci := 3) (C := RX4) (T := TX4) (N := 5) hx hb hts hi4 hown hK hR 0 rfl rfl 0 (by decide) (hts (.fieldLink RX4 9 "ButterflyYard$Transformer" "made" "[I") (by decide +kernel)) (fun _ h9 => h9) rfl dX4_bySums_13 ?_
    refine lv_iload hx hb dX4_bySums_16 (lv_at hl 4 rfl) ?_
    refine lv_aload_n hx hb dX4_bySums_18 rfl (lv_at hl 1 rfl) ?_
    refine lv_aload_n hx hb dX4_bySums_19 rfl (lv_at hl 2 rfl) ?_
    refine lv_iload_n hx hb dX4_bySums_20 rfl (lv_at hl 3 rfl) ?_
    refine lv_iload hx hb dX4_bySums_21 (lv_at hl 4 rfl) ?_
    have hRc := z_subR (ws := [(qm, .inl (cI, 64, .inl (zA md2))), (he, .inl (cI, 64, .inl (zA g)))]) (rs := [(h0, .inr (3, [.ref qm, .ref qg, .ref ql, .ref qs, .ref qc])), (h1, .inr (1, [.int (zI p), .int (zI n), .int (zI iv), .int (zI wy), .int (zI gn), .ref hw])), (hw, .inl (cI, 64, .inl (zA pw)))]) (rc := [(h1, .inr (1, [.int (zI p), .int (zI n), .int (zI iv), .int (zI wy), .int (zI gn), .ref hw])), (hw, .inl (cI, 64, .inl (zA pw))), (he, .inl (cI, 64, .inl (zA g)))]) hP hR (isR := [3, 4, 1]) rfl
    refine z_ro (ws := [(qm, .inl (cI, 64, .inl (zA md2))), (he, .inl (cI, 64, .inl (zA g)))]) (va_runS (As := [.ref h1, .ref he, .int (zI tn), .int (zI k)]) (rest := [.int (zI k), .ref qm]) CF (c_X4_transformedEntry l D cI h1 p n iv wy gn hw pw he g tn k (by exact hC) (by exact hg) (by omega) (by omega) H.size) (va_cwS 4 hts gX4_bySums_X4_transformedEntry rfl rfl rfl (by decide +kernel) ⟨Nat.le_of_ble_eq_true rfl, Nat.le_of_ble_eq_true rfl⟩) (z_preS z_nilP (z_nilD (A := A)) hRc z_noX (hK.sub (tys' := [(cI, .int)]) [0] rfl)) rfl rfl hl.1 rfl (lv_room (Nat.le_of_ble_eq_true rfl)) dX4_bySums_23 ⟨Nat.le_of_ble_eq_true rfl, Nat.le_of_ble_eq_true rfl⟩) hP hS hA (cells' := 0) (slots' := 0) rfl rfl (fun H locs hP hS => ?_)
    have hR := hR0.at hS
    refine z_iast (cA := cI) (n := 64) (g := md2) (i := k) (v := dft p n pw n tn g k) hx hb hK hP hD hS 0 0 rfl rfl rfl (by omega) dX4_bySums_26 (fun H locs hP hD hS => ?_)
    have hP : va_P D vwCl [(qm, .inl (cI, 64, .inl (zA (zU md2 k (dft p n pw n tn g k))))), (he, .inl (cI, 64, .inl (zA g)))] H := hP
    have hD : va_D A [(qm, .inl (cI, 64, .inl (zA (zU md2 k (dft p n pw n tn g k))))), (he, .inl (cI, 64, .inl (zA g)))] := hD
    have hR := hR0.at hS
    refine lv_iinc (v := zI (k + 1)) (lv' := [(4, .int (zI (k + 1))), (0, .ref h0), (1, .ref h1), (2, .ref he), (3, .int (zI tn))]) hx hb dX4_bySums_27 hl (k := 4) rfl (zI_add _ _) (by decide) rfl (fun ls hl => ?_)
    have hl := lv_sub hl [1, 2, 3, 4, 0] rfl
    have hl : lv_has ls 5 [(0, .ref h0), (1, .ref h1), (2, .ref he), (3, .int (zI tn)), (4, .int (zI (k + 1)))] := hl
    refine lv_goto (tgt := 3) hx hb dX4_bySums_30 (by decide) ?_
    exact ih_3 (k + 1, zU md2 k (dft p n pw n tn g k)) _ _ _ ⟨(by omega), (by exact zU_fill hf rfl), hP, hD, hS, hl⟩ (by show (n - (k + 1)).toNat < (n - k).toNat; omega)

set_option maxHeartbeats 4000000 in
set_option maxRecDepth 100000 in
theorem c_X4_pass (l : Launch) (D : va_G) (cI : ClassId) (h0 : Nat) (qm : Nat) (qg : Nat) (ql : Nat) (qs : Nat) (qc : Nat) (h1 : Nat) (p : Int) (n : Int) (iv : Int) (wy : Int) (gn : Int) (hw : Nat) (pw : Int → Int) (he : Nat) (g : Int → Int) (tn : Int) (sd : Int) (rx : Int) (pt : Int) (md : Int → Int) (hC : zCH p n pw) (h1sd : 1 ≤ sd) (h1rx : 1 ≤ rx) (h1pt : 1 ≤ pt) (hsrp : sd * rx * pt ≤ 64) (ht : 0 ≤ tn ∧ tn ≤ 4096) (hg : ∀ j, 0 ≤ j → j < sd * rx * pt → 0 ≤ g j ∧ g j < p) : zC l yX4_pass wsX4_pass ({ frames := 2, cells := 0, slots := 0, locals := 46 } : Room) D [(cI, .int)] [(qm, .inl (cI, 64, .inl (zA md))), (he, .inl (cI, 64, .inl (zA g)))] [(h0, .inr (3, [.ref qm, .ref qg, .ref ql, .ref qs, .ref qc])), (h1, .inr (1, [.int (zI p), .int (zI n), .int (zI iv), .int (zI wy), .int (zI gn), .ref hw])), (hw, .inl (cI, 64, .inl (zA pw)))] [.ref h0, .ref h1, .ref he, .int (zI tn), .int (zI sd), .int (zI rx), .int (zI pt)] (S := (Int → Int) × (Int → Int)) (fun (md2, g2) => ∀ k, 0 ≤ k → k < sd * rx * pt → g2 k = passF p n pw sd rx pt tn g k) (fun (md2, g2) => none) (fun (md2, g2) => [(qm, .inl (cI, 64, .inl (zA md2))), (he, .inl (cI, 64, .inl (zA g2)))]) := by
  have hnp : 1 ≤ n ∧ n ≤ 64 ∧ 2 ≤ p ∧ p ≤ 10000 := ⟨hC.1, hC.2.1, hC.2.2.1, hC.2.2.2.1⟩
  have hpr := hC.2.2.2.2.1
  have h3 := z_three h1sd h1rx h1pt hsrp
  refine z_start (cc := cX4_pass) (maxL := 14) (ret := none) (own := RX4) (by decide) rfl rfl (Nat.le_of_ble_eq_true rfl) [(0, .ref h0), (1, .ref h1), (2, .ref he), (3, .int (zI tn)), (4, .int (zI sd)), (5, .int (zI rx)), (6, .int (zI pt))] rfl ?_
  intro pp ee s mm below meth cc A H ls hx hb hr hml hts hown hlocks hin hK hA hP hD hS hR0 hR hl
  have CF : CallFix pp mm cc cX4_pass 14 s ([.ref h0, .ref h1, .ref he, .int (zI tn), .int (zI sd), .int (zI rx), .int (zI pt)] : List Value).toArray wsX4_pass RX4 := ⟨hx, hb, hml, hown, hts⟩
  have hi4 : ∀ w ∈ wsX40, w ∈ wsX4_pass := by decide +kernel
  refine z_iconst hx hb dX4_pass_0 ?_
  refine lv_istore (lv' := [(7, .int (zI 0)), (0, .ref h0), (1, .ref h1), (2, .ref he), (3, .int (zI tn)), (4, .int (zI sd)), (5, .int (zI rx)), (6, .int (zI pt))]) hx hb dX4_pass_1 hl (by decide) rfl (fun ls hl => ?_)
  have hl := lv_sub hl [1, 2, 3, 4, 5, 6, 7, 0] rfl
  have hl : lv_has ls 14 [(0, .ref h0), (1, .ref h1), (2, .ref he), (3, .int (zI tn)), (4, .int (zI sd)), (5, .int (zI rx)), (6, .int (zI pt)), (7, .int (zI 0))] := hl
  refine z_loop (σ := Int × (Int → Int)) (fun (u, md2) => (pt - u).toNat) (fun (u, md2) H locs ls => (0 ≤ u ∧ u ≤ pt) ∧ (∀ t, 0 ≤ t → t < sd * rx * u → md2 t = passF p n pw sd rx pt tn g t) ∧ va_P D vwCl [(qm, .inl (cI, 64, .inl (zA md2))), (he, .inl (cI, 64, .inl (zA g)))] H ∧ va_D A [(qm, .inl (cI, 64, .inl (zA md2))), (he, .inl (cI, 64, .inl (zA g)))] ∧ va_S A s.heap H locs ∧ lv_has ls 14 [(0, .ref h0), (1, .ref h1), (2, .ref he), (3, .int (zI tn)), (4, .int (zI sd)), (5, .int (zI rx)), (6, .int (zI pt)), (7, .int (zI u))]) (0, md) ⟨(by omega), (fun t h1 h2 => absurd h2 (by rw [Int.mul_zero]; omega)), hP, hD, hS, hl⟩ ?_
  intro ⟨u, md2⟩ H locs ls hI ih_3
  obtain ⟨hu, hf, hP, hD, hS, hl⟩ := hI
  have hR := hR0.at hS
  refine lv_iload hx hb dX4_pass_3 (lv_at hl 7 rfl) ?_
  refine lv_iload hx hb dX4_pass_5 (lv_at hl 6 rfl) ?_
  refine z_icmp_ge (tgt := 134) hx hb dX4_pass_7 (by decide) (by omega) (fun c_7 => ?_) (fun c_7 => ?_)
  · refine lv_aload_n hx hb dX4_pass_134 rfl (lv_at hl 0 rfl) ?_
    refine lv_aload_n hx hb dX4_pass_135 rfl (lv_at hl 2 rfl) ?_
    refine lv_iload hx hb dX4_pass_136 (lv_at hl 4 rfl) ?_
    refine lv_iload hx hb dX4_pass_138 (lv_at hl 5 rfl) ?_
    refine z_imul hx hb dX4_pass_140 ?_
    refine lv_iload hx hb dX4_pass_141 (lv_at hl 6 rfl) ?_
    refine z_imul hx hb dX4_pass_143 ?_
    have hRc := z_subR (ws := [(qm, .inl (cI, 64, .inl (zA md2))), (he, .inl (cI, 64, .inl (zA g)))]) (rs := [(h0, .inr (3, [.ref qm, .ref qg, .ref ql, .ref qs, .ref qc])), (h1, .inr (1, [.int (zI p), .int (zI n), .int (zI iv), .int (zI wy), .int (zI gn), .ref hw])), (hw, .inl (cI, 64, .inl (zA pw)))]) (rc := [(h0, .inr (3, [.ref qm, .ref qg, .ref ql, .ref qs, .ref qc])), (qm, .inl (cI, 64, .inl (zA md2)))]) hP hR (isR := [2, 0]) rfl
    have hPc := hP.sub (ws' := [(he, .inl (cI, 64, .inl (zA g)))]) [1] rfl
    have hDc := hD.sub (ws' := [(he, .inl (cI, 64, .inl (zA g)))]) [1] (by decide) rfl
    refine z_mu (ws := [(qm, .inl (cI, 64, .inl (zA md2))), (he, .inl (cI, 64, .inl (zA g)))]) (wc := [(he, .inl (cI, 64, .inl (zA g)))]) (wr := [(qm, .inl (cI, 64, .inl (zA md2)))]) (va_runV (As := [.ref he, .int (zI ((sd * rx) * pt))]) (rest := []) CF (c_X4_copyMade l D cI h0 qm qg ql qs qc md2 he g ((sd * rx) * pt) (by omega) H.size) (cwV 2 hts gX4_pass_X4_copyMade rfl rfl rfl (by decide +kernel) ⟨Nat.le_of_ble_eq_true rfl, Nat.le_of_ble_eq_true rfl⟩) (z_preV (va_recv hK hR (ci := 3) (q0 := 0) rfl rfl) hPc hDc hRc (z_dis (ws := [(qm, .inl (cI, 64, .inl (zA md2))), (he, .inl (cI, 64, .inl (zA g)))]) (rs := [(h0, .inr (3, [.ref qm, .ref qg, .ref ql, .ref qs, .ref qc])), (h1, .inr (1, [.int (zI p), .int (zI n), .int (zI iv), .int (zI wy), .int (zI gn), .ref hw])), (hw, .inl (cI, 64, .inl (zA pw)))]) (wc := [(he, .inl (cI, 64, .inl (zA g)))]) (rc := [(h0, .inr (3, [.ref qm, .ref qg, .ref ql, .ref qs, .ref qc])), (qm, .inl (cI, 64, .inl (zA md2)))]) hD hR0 (isC := [1]) (isR := [2, 0]) rfl rfl (by decide)) (hK.sub (tys' := [(cI, .int)]) [0] rfl)) rfl rfl hl.1 rfl (lv_room (Nat.le_of_ble_eq_true rfl)) dX4_pass_144 ⟨Nat.le_of_ble_eq_true rfl, Nat.le_of_ble_eq_true rfl⟩) hP hD hS hA [1] [0] rfl rfl (by decide) (by decide) (cells' := 0) (slots' := 0) rfl rfl (fun u_144 H locs hp_144 hP hD hS => ?_)
    revert hp_144 hP hD
    generalize u_144 = g2_144
    intro hp_144 hP hD
    have hp_144 : ∀ k, 0 ≤ k → k < ((sd * rx) * pt) → g2_144 k = md2 k := hp_144
    have hP := hP.sub (ws' := [(qm, .inl (cI, 64, .inl (zA md2))), (he, .inl (cI, 64, .inl (zA g2_144)))]) [0, 1] rfl
    have hD := hD.sub (ws' := [(qm, .inl (cI, 64, .inl (zA md2))), (he, .inl (cI, 64, .inl (zA g2_144)))]) [0, 1] (by decide) rfl
    have hR := hR0.at hS
    exact z_vret hx hb hr hlocks (md2, g2_144) rfl (fun x h1 h2 => by show g2_144 x = _; rw [hp_144 x h1 h2]; exact hf x h1 (by rw [show u = pt by omega]; exact h2)) hP hD hS dX4_pass_147
  · refine z_iconst hx hb dX4_pass_10 ?_
    refine lv_istore (lv' := [(8, .int (zI 0)), (0, .ref h0), (1, .ref h1), (2, .ref he), (3, .int (zI tn)), (4, .int (zI sd)), (5, .int (zI rx)), (6, .int (zI pt)), (7, .int (zI u))]) hx hb dX4_pass_11 hl (by decide) rfl (fun ls hl => ?_)
    have hl := lv_sub hl [1, 2, 3, 4, 5, 6, 7, 8, 0] rfl
    have hl : lv_has ls 14 [(0, .ref h0), (1, .ref h1), (2, .ref he), (3, .int (zI tn)), (4, .int (zI sd)), (5, .int (zI rx)), (6, .int (zI pt)), (7, .int (zI u)), (8, .int (zI 0))] := hl
    refine z_loop (σ := Int × (Int → Int)) (fun (v, md3) => (rx - v).toNat) (fun (v, md3) H locs ls => (0 ≤ v ∧ v ≤ rx) ∧ (∀ t, 0 ≤ t → t < sd * rx * u + sd * v → md3 t = passF p n pw sd rx pt tn g t) ∧ va_P D vwCl [(qm, .inl (cI, 64, .inl (zA md3))), (he, .inl (cI, 64, .inl (zA g)))] H ∧ va_D A [(qm, .inl (cI, 64, .inl (zA md3))), (he, .inl (cI, 64, .inl (zA g)))] ∧ va_S A s.heap H locs ∧ lv_has ls 14 [(0, .ref h0), (1, .ref h1), (2, .ref he), (3, .int (zI tn)), (4, .int (zI sd)), (5, .int (zI rx)), (6, .int (zI pt)), (7, .int (zI u)), (8, .int (zI v))]) (0, md2) ⟨(by omega), (by exact fun t h1 h2 => hf t h1 (by rw [Int.mul_zero, Int.add_zero] at h2; exact h2)), hP, hD, hS, hl⟩ ?_
    intro ⟨v, md3⟩ H locs ls hI ih_13
    obtain ⟨hv_, hf2, hP, hD, hS, hl⟩ := hI
    have hR := hR0.at hS
    refine lv_iload hx hb dX4_pass_13 (lv_at hl 8 rfl) ?_
    refine lv_iload hx hb dX4_pass_15 (lv_at hl 5 rfl) ?_
    refine z_icmp_ge (tgt := 128) hx hb dX4_pass_17 (by decide) (by omega) (fun c_17 => ?_) (fun c_17 => ?_)
    · refine lv_iinc (v := zI (u + 1)) (lv' := [(7, .int (zI (u + 1))), (0, .ref h0), (1, .ref h1), (2, .ref he), (3, .int (zI tn)), (4, .int (zI sd)), (5, .int (zI rx)), (6, .int (zI pt)), (8, .int (zI v))]) hx hb dX4_pass_128 hl (k := 7) rfl (zI_add _ _) (by decide) rfl (fun ls hl => ?_)
      have hl := lv_sub hl [1, 2, 3, 4, 5, 6, 7, 0, 8] rfl
      have hl : lv_has ls 14 [(0, .ref h0), (1, .ref h1), (2, .ref he), (3, .int (zI tn)), (4, .int (zI sd)), (5, .int (zI rx)), (6, .int (zI pt)), (7, .int (zI (u + 1))), (8, .int (zI v))] := hl
      refine lv_goto (tgt := 3) hx hb dX4_pass_131 (by decide) ?_
      exact ih_3 (u + 1, md3) _ _ _ ⟨(by omega), (by exact fun t h1 h2 => hf2 t h1 (by rw [show v = rx by omega, show sd * rx * u + sd * rx = sd * rx * (u + 1) by grind]; exact h2)), hP, hD, hS, lv_sub hl [0, 1, 2, 3, 4, 5, 6, 7] rfl⟩ (by show (pt - (u + 1)).toNat < (pt - u).toNat; omega)
    · refine z_iconst hx hb dX4_pass_20 ?_
      refine lv_istore (lv' := [(9, .int (zI 0)), (0, .ref h0), (1, .ref h1), (2, .ref he), (3, .int (zI tn)), (4, .int (zI sd)), (5, .int (zI rx)), (6, .int (zI pt)), (7, .int (zI u)), (8, .int (zI v))]) hx hb dX4_pass_21 hl (by decide) rfl (fun ls hl => ?_)
      have hl := lv_sub hl [1, 2, 3, 4, 5, 6, 7, 8, 9, 0] rfl
      have hl : lv_has ls 14 [(0, .ref h0), (1, .ref h1), (2, .ref he), (3, .int (zI tn)), (4, .int (zI sd)), (5, .int (zI rx)), (6, .int (zI pt)), (7, .int (zI u)), (8, .int (zI v)), (9, .int (zI 0))] := hl
      refine z_loop (σ := Int × (Int → Int)) (fun (lw, md4) => (sd - lw).toNat) (fun (lw, md4) H locs ls => (0 ≤ lw ∧ lw ≤ sd) ∧ (∀ t, 0 ≤ t → t < lw + sd * (rx * u + v) → md4 t = passF p n pw sd rx pt tn g t) ∧ va_P D vwCl [(qm, .inl (cI, 64, .inl (zA md4))), (he, .inl (cI, 64, .inl (zA g)))] H ∧ va_D A [(qm, .inl (cI, 64, .inl (zA md4))), (he, .inl (cI, 64, .inl (zA g)))] ∧ va_S A s.heap H locs ∧ lv_has ls 14 [(0, .ref h0), (1, .ref h1), (2, .ref he), (3, .int (zI tn)), (4, .int (zI sd)), (5, .int (zI rx)), (6, .int (zI pt)), (7, .int (zI u)), (8, .int (zI v)), (9, .int (zI lw))]) (0, md3) ⟨(by omega), (by exact fun t h1 h2 => hf2 t h1 (by rw [show (0 : Int) + sd * (rx * u + v) = sd * rx * u + sd * v by grind] at h2; exact h2)), hP, hD, hS, hl⟩ ?_
      intro ⟨lw, md4⟩ H locs ls hI ih_23
      obtain ⟨hw_, hf3, hP, hD, hS, hl⟩ := hI
      have hR := hR0.at hS
      refine lv_iload hx hb dX4_pass_23 (lv_at hl 9 rfl) ?_
      refine lv_iload hx hb dX4_pass_25 (lv_at hl 4 rfl) ?_
      refine z_icmp_ge (tgt := 122) hx hb dX4_pass_27 (by decide) (by omega) (fun c_27 => ?_) (fun c_27 => ?_)
      · refine lv_iinc (v := zI (v + 1)) (lv' := [(8, .int (zI (v + 1))), (0, .ref h0), (1, .ref h1), (2, .ref he), (3, .int (zI tn)), (4, .int (zI sd)), (5, .int (zI rx)), (6, .int (zI pt)), (7, .int (zI u)), (9, .int (zI lw))]) hx hb dX4_pass_122 hl (k := 8) rfl (zI_add _ _) (by decide) rfl (fun ls hl => ?_)
        have hl := lv_sub hl [1, 2, 3, 4, 5, 6, 7, 8, 0, 9] rfl
        have hl : lv_has ls 14 [(0, .ref h0), (1, .ref h1), (2, .ref he), (3, .int (zI tn)), (4, .int (zI sd)), (5, .int (zI rx)), (6, .int (zI pt)), (7, .int (zI u)), (8, .int (zI (v + 1))), (9, .int (zI lw))] := hl
        refine lv_goto (tgt := 13) hx hb dX4_pass_125 (by decide) ?_
        exact ih_13 (v + 1, md4) _ _ _ ⟨(by omega), (by exact fun t h1 h2 => hf3 t h1 (by rw [show lw = sd by omega, show sd + sd * (rx * u + v) = sd * rx * u + sd * (v + 1) by grind]; exact h2)), hP, hD, hS, lv_sub hl [0, 1, 2, 3, 4, 5, 6, 7, 8] rfl⟩ (by show (rx - (v + 1)).toNat < (rx - v).toNat; omega)
      · refine z_lconst0 hx hb dX4_pass_30 ?_
        refine lv_lstore (lv' := [(10, .long (zL 0)), (0, .ref h0), (1, .ref h1), (2, .ref he), (3, .int (zI tn)), (4, .int (zI sd)), (5, .int (zI rx)), (6, .int (zI pt)), (7, .int (zI u)), (8, .int (zI v)), (9, .int (zI lw))]) hx hb dX4_pass_31 hl (by decide) rfl (fun ls hl => ?_)
        have hl := lv_sub hl [1, 2, 3, 4, 5, 6, 7, 8, 9, 10, 0] rfl
        have hl : lv_has ls 14 [(0, .ref h0), (1, .ref h1), (2, .ref he), (3, .int (zI tn)), (4, .int (zI sd)), (5, .int (zI rx)), (6, .int (zI pt)), (7, .int (zI u)), (8, .int (zI v)), (9, .int (zI lw)), (10, .long (zL 0))] := hl
        refine z_iconst hx hb dX4_pass_33 ?_
        refine lv_istore (lv' := [(12, .int (zI 0)), (0, .ref h0), (1, .ref h1), (2, .ref he), (3, .int (zI tn)), (4, .int (zI sd)), (5, .int (zI rx)), (6, .int (zI pt)), (7, .int (zI u)), (8, .int (zI v)), (9, .int (zI lw)), (10, .long (zL 0))]) hx hb dX4_pass_34 hl (by decide) rfl (fun ls hl => ?_)
        have hl := lv_sub hl [1, 2, 3, 4, 5, 6, 7, 8, 9, 10, 11, 0] rfl
        have hl : lv_has ls 14 [(0, .ref h0), (1, .ref h1), (2, .ref he), (3, .int (zI tn)), (4, .int (zI sd)), (5, .int (zI rx)), (6, .int (zI pt)), (7, .int (zI u)), (8, .int (zI v)), (9, .int (zI lw)), (10, .long (zL 0)), (12, .int (zI 0))] := hl
        refine z_loop (σ := Int × Int) (fun (t, hh) => (rx - hh).toNat) (fun (t, hh) H locs ls => (0 ≤ hh ∧ hh ≤ rx) ∧ t = zT (fun h => g (lw + sd * (u + pt * h)) * pw (tn * sd * v * (u + pt * h) % n)) hh ∧ (0 ≤ t ∧ t ≤ hh * 100000000) ∧ va_P D vwCl [(qm, .inl (cI, 64, .inl (zA md4))), (he, .inl (cI, 64, .inl (zA g)))] H ∧ va_D A [(qm, .inl (cI, 64, .inl (zA md4))), (he, .inl (cI, 64, .inl (zA g)))] ∧ va_S A s.heap H locs ∧ lv_has ls 14 [(0, .ref h0), (1, .ref h1), (2, .ref he), (3, .int (zI tn)), (4, .int (zI sd)), (5, .int (zI rx)), (6, .int (zI pt)), (7, .int (zI u)), (8, .int (zI v)), (9, .int (zI lw)), (10, .long (zL t)), (12, .int (zI hh))]) (0, 0) ⟨(by omega), (by rfl), (by omega), hP, hD, hS, hl⟩ ?_
        intro ⟨t, hh⟩ H locs ls hI ih_36
        obtain ⟨hh_, ht_, htr, hP, hD, hS, hl⟩ := hI
        have hR := hR0.at hS
        refine lv_iload hx hb dX4_pass_36 (lv_at hl 11 rfl) ?_
        refine lv_iload hx hb dX4_pass_38 (lv_at hl 5 rfl) ?_
        refine z_icmp_ge (tgt := 91) hx hb dX4_pass_40 (by decide) (by omega) (fun c_40 => ?_) (fun c_40 => ?_)
        · refine lv_aload_n hx hb dX4_pass_91 rfl (lv_at hl 0 rfl) ?_
          refine va_get (D := D) (ci := 3) (C := RX4) (T := TX4) (N := 5) hx hb hts hi4 hown hK hR 0 rfl rfl 0 (by decide) (hts (.fieldLink RX4 9 "ButterflyYard$Transformer" "made" "[I") (by decide +kernel)) (fun _ h9 => h9) rfl dX4_pass_92 ?_
          have hy : 0 ≤ rx * u + v ∧ rx * u + v < rx * pt := by rw [Int.add_comm]; exact z_ix (a := v) (A := rx) (y := u) (M := pt) (by omega) (by omega)
          have hix := z_ix (a := lw) (A := sd) (y := rx * u + v) (M := rx * pt) (by omega) hy
          rw [← Int.mul_assoc] at hix
          refine lv_iload hx hb dX4_pass_95 (lv_at hl 9 rfl) ?_
          refine lv_iload hx hb dX4_pass_97 (lv_at hl 4 rfl) ?_
          refine lv_iload hx hb dX4_pass_99 (lv_at hl 5 rfl) ?_
          refine lv_iload hx hb dX4_pass_101 (lv_at hl 7 rfl) ?_
          refine z_imul hx hb dX4_pass_103 ?_
          refine lv_iload hx hb dX4_pass_104 (lv_at hl 8 rfl) ?_
          refine z_iadd hx hb dX4_pass_106 ?_
          refine z_imul hx hb dX4_pass_107 ?_
          refine z_iadd hx hb dX4_pass_108 ?_
          refine lv_aload_n hx hb dX4_pass_109 rfl (lv_at hl 1 rfl) ?_
          refine lv_lload hx hb dX4_pass_110 (lv_at hl 10 rfl) ?_
          have hRc := z_subR (ws := [(qm, .inl (cI, 64, .inl (zA md4))), (he, .inl (cI, 64, .inl (zA g)))]) (rs := [(h0, .inr (3, [.ref qm, .ref qg, .ref ql, .ref qs, .ref qc])), (h1, .inr (1, [.int (zI p), .int (zI n), .int (zI iv), .int (zI wy), .int (zI gn), .ref hw])), (hw, .inl (cI, 64, .inl (zA pw)))]) (rc := [(h1, .inr (1, [.int (zI p), .int (zI n), .int (zI iv), .int (zI wy), .int (zI gn), .ref hw]))]) hP hR (isR := [3]) rfl
          refine z_ro (ws := [(qm, .inl (cI, 64, .inl (zA md4))), (he, .inl (cI, 64, .inl (zA g)))]) (va_runV (As := [.long (zL t)]) (rest := [.int (zI (lw + (sd * ((rx * u) + v)))), .ref qm]) CF (c_X2_remainder l D h1 p n iv wy gn hw t (by omega) (by omega) H.size) (cwV 1 hts gX4_pass_X2_remainder rfl rfl rfl (by decide +kernel) ⟨Nat.le_of_ble_eq_true rfl, Nat.le_of_ble_eq_true rfl⟩) (z_preV (va_recv hK hR (ci := 1) (q0 := 1) rfl rfl) z_nilP (z_nilD (A := A)) hRc z_noX (hK.sub (tys' := []) [] rfl)) rfl rfl hl.1 rfl (lv_room (Nat.le_of_ble_eq_true rfl)) dX4_pass_112 ⟨Nat.le_of_ble_eq_true rfl, Nat.le_of_ble_eq_true rfl⟩) hP hS hA (cells' := 0) (slots' := 0) rfl rfl (fun H locs hP hS => ?_)
          have hR := hR0.at hS
          refine z_iast (cA := cI) (n := 64) (g := md4) (i := lw + (sd * ((rx * u) + v))) (v := t % p) hx hb hK hP hD hS 0 0 rfl rfl rfl (by omega) dX4_pass_115 (fun H locs hP hD hS => ?_)
          have hP : va_P D vwCl [(qm, .inl (cI, 64, .inl (zA (zU md4 (lw + (sd * ((rx * u) + v))) (t % p))))), (he, .inl (cI, 64, .inl (zA g)))] H := hP
          have hD : va_D A [(qm, .inl (cI, 64, .inl (zA (zU md4 (lw + (sd * ((rx * u) + v))) (t % p))))), (he, .inl (cI, 64, .inl (zA g)))] := hD
          have hR := hR0.at hS
          refine lv_iinc (v := zI (lw + 1)) (lv' := [(9, .int (zI (lw + 1))), (0, .ref h0), (1, .ref h1), (2, .ref he), (3, .int (zI tn)), (4, .int (zI sd)), (5, .int (zI rx)), (6, .int (zI pt)), (7, .int (zI u)), (8, .int (zI v)), (10, .long (zL t)), (12, .int (zI hh))]) hx hb dX4_pass_116 hl (k := 9) rfl (zI_add _ _) (by decide) rfl (fun ls hl => ?_)
          have hl := lv_sub hl [1, 2, 3, 4, 5, 6, 7, 8, 9, 0, 10, 11] rfl
          have hl : lv_has ls 14 [(0, .ref h0), (1, .ref h1), (2, .ref he), (3, .int (zI tn)), (4, .int (zI sd)), (5, .int (zI rx)), (6, .int (zI pt)), (7, .int (zI u)), (8, .int (zI v)), (9, .int (zI (lw + 1))), (10, .long (zL t)), (12, .int (zI hh))] := hl
          refine lv_goto (tgt := 23) hx hb dX4_pass_119 (by decide) ?_
          exact ih_23 (lw + 1, zU md4 (lw + (sd * ((rx * u) + v))) (t % p)) _ _ _ ⟨(by omega), (by exact fun t h1 h2 => by by_cases e : t = lw + sd * (rx * u + v); (subst e; rw [zU_s, passF_at (by omega) (by omega), ht_, show hh = rx by omega]); (rw [zU_n _ _ e]; exact hf3 t h1 (by omega))), hP, hD, hS, lv_sub hl [0, 1, 2, 3, 4, 5, 6, 7, 8, 9] rfl⟩ (by show (sd - (lw + 1)).toNat < (sd - lw).toNat; omega)
        · have hy := z_ix (a := u) (A := pt) (y := hh) (M := rx) (by omega) (by omega)
          have hix := z_ix (a := lw) (A := sd) (y := u + pt * hh) (M := pt * rx) (by omega) (by omega)
          rw [show sd * (pt * rx) = sd * rx * pt by grind] at hix
          have hpr1 : pt * rx ≤ 64 := by have h9 : 1 * (pt * rx) ≤ sd * (pt * rx) := Int.mul_le_mul_of_nonneg_right h1sd (by omega); rw [show sd * (pt * rx) = sd * rx * pt by grind] at h9; omega
          have hgi := hg (lw + sd * (u + pt * hh)) (by omega) (by omega)
          have hb1 := z_mulb (a := tn) (b := sd) (A := 4096) (B := 64) (by omega) (by omega) (by omega) (by omega)
          have hb2 := z_mulb (a := tn * sd) (b := v) (A := 262144) (B := 64) (by omega) (by omega) (by omega) (by omega)
          have hb3 := z_mulb (a := tn * sd * v) (b := u + pt * hh) (A := 16777216) (B := 64) (by omega) (by omega) (by omega) (by omega)
          refine lv_iload hx hb dX4_pass_43 (lv_at hl 7 rfl) ?_
          refine lv_iload hx hb dX4_pass_45 (lv_at hl 6 rfl) ?_
          refine lv_iload hx hb dX4_pass_47 (lv_at hl 11 rfl) ?_
          refine z_imul hx hb dX4_pass_49 ?_
          refine z_iadd hx hb dX4_pass_50 ?_
          refine lv_istore (lv' := [(13, .int (zI (u + (pt * hh)))), (0, .ref h0), (1, .ref h1), (2, .ref he), (3, .int (zI tn)), (4, .int (zI sd)), (5, .int (zI rx)), (6, .int (zI pt)), (7, .int (zI u)), (8, .int (zI v)), (9, .int (zI lw)), (10, .long (zL t)), (12, .int (zI hh))]) hx hb dX4_pass_51 hl (by decide) rfl (fun ls hl => ?_)
          have hl := lv_sub hl [1, 2, 3, 4, 5, 6, 7, 8, 9, 10, 11, 12, 0] rfl
          have hl : lv_has ls 14 [(0, .ref h0), (1, .ref h1), (2, .ref he), (3, .int (zI tn)), (4, .int (zI sd)), (5, .int (zI rx)), (6, .int (zI pt)), (7, .int (zI u)), (8, .int (zI v)), (9, .int (zI lw)), (10, .long (zL t)), (12, .int (zI hh)), (13, .int (zI (u + (pt * hh))))] := hl
          refine lv_lload hx hb dX4_pass_53 (lv_at hl 10 rfl) ?_
          refine lv_aload_n hx hb dX4_pass_55 rfl (lv_at hl 2 rfl) ?_
          refine lv_iload hx hb dX4_pass_56 (lv_at hl 9 rfl) ?_
          refine lv_iload hx hb dX4_pass_58 (lv_at hl 4 rfl) ?_
          refine lv_iload hx hb dX4_pass_60 (lv_at hl 12 rfl) ?_
          refine z_imul hx hb dX4_pass_62 ?_
          refine z_iadd hx hb dX4_pass_63 ?_
          refine z_iald (cA := cI) (n := 64) (g := g) hx hb hK hP 1 0 rfl rfl rfl (by omega) dX4_pass_64 ?_
          refine z_i2l hx hb dX4_pass_65 (by omega) ?_
          refine lv_aload_n hx hb dX4_pass_66 rfl (lv_at hl 1 rfl) ?_
          refine lv_iload_n hx hb dX4_pass_67 rfl (lv_at hl 3 rfl) ?_
          refine lv_iload hx hb dX4_pass_68 (lv_at hl 4 rfl) ?_
          refine z_imul hx hb dX4_pass_70 ?_
          refine lv_iload hx hb dX4_pass_71 (lv_at hl 8 rfl) ?_
          refine z_imul hx hb dX4_pass_73 ?_
          refine lv_iload hx hb dX4_pass_74 (lv_at hl 12 rfl) ?_
          refine z_imul hx hb dX4_pass_76 ?_
          have hRc := z_subR (ws := [(qm, .inl (cI, 64, .inl (zA md4))), (he, .inl (cI, 64, .inl (zA g)))]) (rs := [(h0, .inr (3, [.ref qm, .ref qg, .ref ql, .ref qs, .ref qc])), (h1, .inr (1, [.int (zI p), .int (zI n), .int (zI iv), .int (zI wy), .int (zI gn), .ref hw])), (hw, .inl (cI, 64, .inl (zA pw)))]) (rc := [(h1, .inr (1, [.int (zI p), .int (zI n), .int (zI iv), .int (zI wy), .int (zI gn), .ref hw])), (hw, .inl (cI, 64, .inl (zA pw)))]) hP hR (isR := [3, 4]) rfl
          refine z_ro (ws := [(qm, .inl (cI, 64, .inl (zA md4))), (he, .inl (cI, 64, .inl (zA g)))]) (va_runV (As := [.int (zI (((tn * sd) * v) * (u + (pt * hh))))]) (rest := [.long (zL (g (lw + (sd * (u + (pt * hh)))))), .long (zL t)]) CF (c_X2_power l D cI h1 p n iv wy gn hw pw (((tn * sd) * v) * (u + (pt * hh))) (by omega) (by omega) H.size) (cwV 1 hts gX4_pass_X2_power rfl rfl rfl (by decide +kernel) ⟨Nat.le_of_ble_eq_true rfl, Nat.le_of_ble_eq_true rfl⟩) (z_preV (va_recv hK hR (ci := 1) (q0 := 1) rfl rfl) z_nilP (z_nilD (A := A)) hRc z_noX (hK.sub (tys' := [(cI, .int)]) [0] rfl)) rfl rfl hl.1 rfl (lv_room (Nat.le_of_ble_eq_true rfl)) dX4_pass_77 ⟨Nat.le_of_ble_eq_true rfl, Nat.le_of_ble_eq_true rfl⟩) hP hS hA (cells' := 0) (slots' := 0) rfl rfl (fun H locs hP hS => ?_)
          have hR := hR0.at hS
          have hpx := hpr (tn * sd * v * (u + pt * hh))
          have hb4 := z_mulb (a := g (lw + sd * (u + pt * hh))) (b := pw (tn * sd * v * (u + pt * hh) % n)) (A := 10000) (B := 10000) (by omega) (by omega) (by omega) (by omega)
          refine z_i2l hx hb dX4_pass_80 (by omega) ?_
          refine z_lmul hx hb dX4_pass_81 ?_
          refine z_ladd hx hb dX4_pass_82 ?_
          refine lv_lstore (lv' := [(10, .long (zL (t + ((g (lw + (sd * (u + (pt * hh))))) * (pw ((((tn * sd) * v) * (u + (pt * hh))) % n)))))), (0, .ref h0), (1, .ref h1), (2, .ref he), (3, .int (zI tn)), (4, .int (zI sd)), (5, .int (zI rx)), (6, .int (zI pt)), (7, .int (zI u)), (8, .int (zI v)), (9, .int (zI lw)), (12, .int (zI hh)), (13, .int (zI (u + (pt * hh))))]) hx hb dX4_pass_83 hl (by decide) rfl (fun ls hl => ?_)
          have hl := lv_sub hl [1, 2, 3, 4, 5, 6, 7, 8, 9, 10, 0, 11, 12] rfl
          have hl : lv_has ls 14 [(0, .ref h0), (1, .ref h1), (2, .ref he), (3, .int (zI tn)), (4, .int (zI sd)), (5, .int (zI rx)), (6, .int (zI pt)), (7, .int (zI u)), (8, .int (zI v)), (9, .int (zI lw)), (10, .long (zL (t + ((g (lw + (sd * (u + (pt * hh))))) * (pw ((((tn * sd) * v) * (u + (pt * hh))) % n)))))), (12, .int (zI hh)), (13, .int (zI (u + (pt * hh))))] := hl
          refine lv_iinc (v := zI (hh + 1)) (lv' := [(12, .int (zI (hh + 1))), (0, .ref h0), (1, .ref h1), (2, .ref he), (3, .int (zI tn)), (4, .int (zI sd)), (5, .int (zI rx)), (6, .int (zI pt)), (7, .int (zI u)), (8, .int (zI v)), (9, .int (zI lw)), (10, .long (zL (t + ((g (lw + (sd * (u + (pt * hh))))) * (pw ((((tn * sd) * v) * (u + (pt * hh))) % n)))))), (13, .int (zI (u + (pt * hh))))]) hx hb dX4_pass_85 hl (k := 11) rfl (zI_add _ _) (by decide) rfl (fun ls hl => ?_)
          have hl := lv_sub hl [1, 2, 3, 4, 5, 6, 7, 8, 9, 10, 11, 0, 12] rfl
          have hl : lv_has ls 14 [(0, .ref h0), (1, .ref h1), (2, .ref he), (3, .int (zI tn)), (4, .int (zI sd)), (5, .int (zI rx)), (6, .int (zI pt)), (7, .int (zI u)), (8, .int (zI v)), (9, .int (zI lw)), (10, .long (zL (t + ((g (lw + (sd * (u + (pt * hh))))) * (pw ((((tn * sd) * v) * (u + (pt * hh))) % n)))))), (12, .int (zI (hh + 1))), (13, .int (zI (u + (pt * hh))))] := hl
          refine lv_goto (tgt := 36) hx hb dX4_pass_88 (by decide) ?_
          exact ih_36 (t + ((g (lw + (sd * (u + (pt * hh))))) * (pw ((((tn * sd) * v) * (u + (pt * hh))) % n))), hh + 1) _ _ _ ⟨(by omega), (by rw [ht_, zT_s _ hh_.1]), (by omega), hP, hD, hS, lv_sub hl [0, 1, 2, 3, 4, 5, 6, 7, 8, 9, 10, 11] rfl⟩ (by show (rx - (hh + 1)).toNat < (rx - hh).toNat; omega)

set_option maxHeartbeats 4000000 in
set_option maxRecDepth 100000 in
theorem c_X4_byMixedRadices (l : Launch) (D : va_G) (cI : ClassId) (h0 : Nat) (qm : Nat) (qg : Nat) (ql : Nat) (qs : Nat) (qc : Nat) (h1 : Nat) (p : Int) (n : Int) (iv : Int) (wy : Int) (gn : Int) (hw : Nat) (pw : Int → Int) (he : Nat) (g : Int → Int) (sz : Int) (tn : Int) (md : Int → Int) (hC : zCH p n pw) (hsz : 1 ≤ sz ∧ sz ≤ 64) (ht : 0 ≤ tn ∧ tn ≤ 4096) (hdv : tn * sz % n = 0) (hg : ∀ j, 0 ≤ j → j < sz → 0 ≤ g j ∧ g j < p) : zC l yX4_byMixedRadices wsX4_byMixedRadices ({ frames := 3, cells := 0, slots := 0, locals := 79 } : Room) D [(cI, .int)] [(qm, .inl (cI, 64, .inl (zA md))), (he, .inl (cI, 64, .inl (zA g)))] [(h0, .inr (3, [.ref qm, .ref qg, .ref ql, .ref qs, .ref qc])), (h1, .inr (1, [.int (zI p), .int (zI n), .int (zI iv), .int (zI wy), .int (zI gn), .ref hw])), (hw, .inl (cI, 64, .inl (zA pw)))] [.ref h0, .ref h1, .ref he, .int (zI sz), .int (zI tn)] (S := (Int → Int) × (Int → Int)) (fun (md2, g2) => ∀ k, 0 ≤ k → k < sz → g2 k = dft p n pw sz tn g k) (fun (md2, g2) => none) (fun (md2, g2) => [(qm, .inl (cI, 64, .inl (zA md2))), (he, .inl (cI, 64, .inl (zA g2)))]) := by
  have hnp : 1 ≤ n ∧ n ≤ 64 ∧ 2 ≤ p ∧ p ≤ 10000 := ⟨hC.1, hC.2.1, hC.2.2.1, hC.2.2.2.1⟩
  have hpr := hC.2.2.2.2.1
  refine z_start (cc := cX4_byMixedRadices) (maxL := 9) (ret := none) (own := RX4) (by decide) rfl rfl (Nat.le_of_ble_eq_true rfl) [(0, .ref h0), (1, .ref h1), (2, .ref he), (3, .int (zI sz)), (4, .int (zI tn))] rfl ?_
  intro pp ee s mm below meth cc A H ls hx hb hr hml hts hown hlocks hin hK hA hP hD hS hR0 hR hl
  have CF : CallFix pp mm cc cX4_byMixedRadices 9 s ([.ref h0, .ref h1, .ref he, .int (zI sz), .int (zI tn)] : List Value).toArray wsX4_byMixedRadices RX4 := ⟨hx, hb, hml, hown, hts⟩
  refine z_iconst hx hb dX4_byMixedRadices_0 ?_
  refine lv_istore (lv' := [(5, .int (zI 1)), (0, .ref h0), (1, .ref h1), (2, .ref he), (3, .int (zI sz)), (4, .int (zI tn))]) hx hb dX4_byMixedRadices_1 hl (by decide) rfl (fun ls hl => ?_)
  have hl := lv_sub hl [1, 2, 3, 4, 5, 0] rfl
  have hl : lv_has ls 9 [(0, .ref h0), (1, .ref h1), (2, .ref he), (3, .int (zI sz)), (4, .int (zI tn)), (5, .int (zI 1))] := hl
  refine lv_iload_n hx hb dX4_byMixedRadices_3 rfl (lv_at hl 3 rfl) ?_
  refine lv_istore (lv' := [(6, .int (zI sz)), (0, .ref h0), (1, .ref h1), (2, .ref he), (3, .int (zI sz)), (4, .int (zI tn)), (5, .int (zI 1))]) hx hb dX4_byMixedRadices_4 hl (by decide) rfl (fun ls hl => ?_)
  have hl := lv_sub hl [1, 2, 3, 4, 5, 6, 0] rfl
  have hl : lv_has ls 9 [(0, .ref h0), (1, .ref h1), (2, .ref he), (3, .int (zI sz)), (4, .int (zI tn)), (5, .int (zI 1)), (6, .int (zI sz))] := hl
  refine z_iconst hx hb dX4_byMixedRadices_6 ?_
  refine lv_istore (lv' := [(7, .int (zI 0)), (0, .ref h0), (1, .ref h1), (2, .ref he), (3, .int (zI sz)), (4, .int (zI tn)), (5, .int (zI 1)), (6, .int (zI sz))]) hx hb dX4_byMixedRadices_7 hl (by decide) rfl (fun ls hl => ?_)
  have hl := lv_sub hl [1, 2, 3, 4, 5, 6, 7, 0] rfl
  have hl : lv_has ls 9 [(0, .ref h0), (1, .ref h1), (2, .ref he), (3, .int (zI sz)), (4, .int (zI tn)), (5, .int (zI 1)), (6, .int (zI sz)), (7, .int (zI 0))] := hl
  refine z_loop (σ := Int × Int × Int × (Int → Int) × (Int → Int)) (fun (sd, pt, st, md2, g2) => (6 - st).toNat) (fun (sd, pt, st, md2, g2) H locs ls => ((st = 0 ∧ pt ≤ 64) ∨ (st = 1 ∧ pt ≤ 32) ∨ (st = 2 ∧ pt ≤ 16) ∨ (st = 3 ∧ pt ≤ 8) ∨ (st = 4 ∧ pt ≤ 4) ∨ (st = 5 ∧ pt ≤ 2) ∨ (st = 6 ∧ pt ≤ 1)) ∧ (1 ≤ sd ∧ 1 ≤ pt) ∧ sd * pt = sz ∧ (∀ t, 0 ≤ t → t < sz → g2 t = stk p n pw sd pt tn g t) ∧ va_P D vwCl [(qm, .inl (cI, 64, .inl (zA md2))), (he, .inl (cI, 64, .inl (zA g2)))] H ∧ va_D A [(qm, .inl (cI, 64, .inl (zA md2))), (he, .inl (cI, 64, .inl (zA g2)))] ∧ va_S A s.heap H locs ∧ lv_has ls 9 [(0, .ref h0), (1, .ref h1), (2, .ref he), (3, .int (zI sz)), (4, .int (zI tn)), (5, .int (zI sd)), (6, .int (zI pt)), (7, .int (zI st))]) (1, sz, 0, md, g) ⟨(by omega), (by omega), (by omega), (by exact fun t h1 h2 => (stk_0 hC (hg t h1 h2)).symm), hP, hD, hS, hl⟩ ?_
  intro ⟨sd, pt, st, md2, g2⟩ H locs ls hI ih_9
  obtain ⟨hst, hsd, hsp, hf, hP, hD, hS, hl⟩ := hI
  have hR := hR0.at hS
  refine lv_iload hx hb dX4_byMixedRadices_9 (lv_at hl 7 rfl) ?_
  refine z_bipush hx hb dX4_byMixedRadices_11 (by decide) ?_
  refine z_icmp_ge (tgt := 63) hx hb dX4_byMixedRadices_13 (by decide) (by omega) (fun c_13 => ?_) (fun c_13 => ?_)
  · exact z_vret hx hb hr hlocks (md2, g2) rfl (fun x h1 h2 => by show g2 x = _; rw [hf x h1 h2, show pt = 1 by omega, show sd = sz by rw [← hsp, show pt = 1 by omega, Int.mul_one]]; exact stk_end ⟨h1, h2⟩) hP hD hS dX4_byMixedRadices_63
  · refine lv_iload hx hb dX4_byMixedRadices_16 (lv_at hl 6 rfl) ?_
    refine z_iconst hx hb dX4_byMixedRadices_18 ?_
    refine z_icmp_le (tgt := 63) hx hb dX4_byMixedRadices_19 (by decide) (by omega) (fun c_19 => ?_) (fun c_19 => ?_)
    · exact z_vret hx hb hr hlocks (md2, g2) rfl (fun x h1 h2 => by show g2 x = _; rw [hf x h1 h2, show pt = 1 by omega, show sd = sz by rw [← hsp, show pt = 1 by omega, Int.mul_one]]; exact stk_end ⟨h1, h2⟩) hP hD hS dX4_byMixedRadices_63
    · have hlf := lfac_rng (n := pt) (by omega)
      have hcut := lfac_cut (n := pt) (by omega)
      have hcut2 : sd * lfac pt * (pt / lfac pt) = sz := by rw [Int.mul_assoc, hcut.1]; exact hsp
      refine lv_iload hx hb dX4_byMixedRadices_22 (lv_at hl 6 rfl) ?_
      have hRc : va_P D vwCl [] H := z_nilP
      refine z_ro (ws := [(qm, .inl (cI, 64, .inl (zA md2))), (he, .inl (cI, 64, .inl (zA g2)))]) (va_runS (As := [.int (zI pt)]) (rest := []) CF (c_X1_leastFactor l D pt (by omega) H.size) (va_cwS 1 hts gX4_byMixedRadices_X1_leastFactor rfl rfl rfl (by decide +kernel) ⟨Nat.le_of_ble_eq_true rfl, Nat.le_of_ble_eq_true rfl⟩) (z_preS z_nilP (z_nilD (A := A)) hRc z_noX (hK.sub (tys' := []) [] rfl)) rfl rfl hl.1 rfl (lv_room (Nat.le_of_ble_eq_true rfl)) dX4_byMixedRadices_24 ⟨Nat.le_of_ble_eq_true rfl, Nat.le_of_ble_eq_true rfl⟩) hP hS hA (cells' := 0) (slots' := 0) rfl rfl (fun H locs hP hS => ?_)
      have hR := hR0.at hS
      refine lv_istore (lv' := [(8, .int (zI (lfac pt))), (0, .ref h0), (1, .ref h1), (2, .ref he), (3, .int (zI sz)), (4, .int (zI tn)), (5, .int (zI sd)), (6, .int (zI pt)), (7, .int (zI st))]) hx hb dX4_byMixedRadices_27 hl (by decide) rfl (fun ls hl => ?_)
      have hl := lv_sub hl [1, 2, 3, 4, 5, 6, 7, 8, 0] rfl
      have hl : lv_has ls 9 [(0, .ref h0), (1, .ref h1), (2, .ref he), (3, .int (zI sz)), (4, .int (zI tn)), (5, .int (zI sd)), (6, .int (zI pt)), (7, .int (zI st)), (8, .int (zI (lfac pt)))] := hl
      refine lv_iload hx hb dX4_byMixedRadices_29 (lv_at hl 6 rfl) ?_
      refine lv_iload hx hb dX4_byMixedRadices_31 (lv_at hl 8 rfl) ?_
      refine z_idiv hx hb dX4_byMixedRadices_33 (by omega) (by omega) ?_
      refine lv_istore (lv' := [(6, .int (zI (pt / (lfac pt)))), (0, .ref h0), (1, .ref h1), (2, .ref he), (3, .int (zI sz)), (4, .int (zI tn)), (5, .int (zI sd)), (7, .int (zI st)), (8, .int (zI (lfac pt)))]) hx hb dX4_byMixedRadices_34 hl (by decide) rfl (fun ls hl => ?_)
      have hl := lv_sub hl [1, 2, 3, 4, 5, 6, 0, 7, 8] rfl
      have hl : lv_has ls 9 [(0, .ref h0), (1, .ref h1), (2, .ref he), (3, .int (zI sz)), (4, .int (zI tn)), (5, .int (zI sd)), (6, .int (zI (pt / (lfac pt)))), (7, .int (zI st)), (8, .int (zI (lfac pt)))] := hl
      refine lv_aload_n hx hb dX4_byMixedRadices_36 rfl (lv_at hl 0 rfl) ?_
      refine lv_aload_n hx hb dX4_byMixedRadices_37 rfl (lv_at hl 1 rfl) ?_
      refine lv_aload_n hx hb dX4_byMixedRadices_38 rfl (lv_at hl 2 rfl) ?_
      refine lv_iload hx hb dX4_byMixedRadices_39 (lv_at hl 4 rfl) ?_
      refine lv_iload hx hb dX4_byMixedRadices_41 (lv_at hl 5 rfl) ?_
      refine lv_iload hx hb dX4_byMixedRadices_43 (lv_at hl 8 rfl) ?_
      refine lv_iload hx hb dX4_byMixedRadices_45 (lv_at hl 6 rfl) ?_
      have hRc := z_subR (ws := [(qm, .inl (cI, 64, .inl (zA md2))), (he, .inl (cI, 64, .inl (zA g2)))]) (rs := [(h0, .inr (3, [.ref qm, .ref qg, .ref ql, .ref qs, .ref qc])), (h1, .inr (1, [.int (zI p), .int (zI n), .int (zI iv), .int (zI wy), .int (zI gn), .ref hw])), (hw, .inl (cI, 64, .inl (zA pw)))]) (rc := [(h0, .inr (3, [.ref qm, .ref qg, .ref ql, .ref qs, .ref qc])), (h1, .inr (1, [.int (zI p), .int (zI n), .int (zI iv), .int (zI wy), .int (zI gn), .ref hw])), (hw, .inl (cI, 64, .inl (zA pw)))]) hP hR (isR := [2, 3, 4]) rfl
      have hPc := hP.sub (ws' := [(qm, .inl (cI, 64, .inl (zA md2))), (he, .inl (cI, 64, .inl (zA g2)))]) [0, 1] rfl
      have hDc := hD.sub (ws' := [(qm, .inl (cI, 64, .inl (zA md2))), (he, .inl (cI, 64, .inl (zA g2)))]) [0, 1] (by decide) rfl
      refine z_mu (ws := [(qm, .inl (cI, 64, .inl (zA md2))), (he, .inl (cI, 64, .inl (zA g2)))]) (wc := [(qm, .inl (cI, 64, .inl (zA md2))), (he, .inl (cI, 64, .inl (zA g2)))]) (wr := []) (va_runV (As := [.ref h1, .ref he, .int (zI tn), .int (zI sd), .int (zI (lfac pt)), .int (zI (pt / (lfac pt)))]) (rest := []) CF (c_X4_pass l D cI h0 qm qg ql qs qc h1 p n iv wy gn hw pw he g2 tn sd (lfac pt) (pt / (lfac pt)) md2 (by exact hC) (by omega) (by omega) (by omega) (by rw [hcut2]; omega) (by omega) (by exact fun j a1 a2 => by rw [hf j a1 (by rw [← hcut2]; exact a2)]; exact z_rem (by omega)) H.size) (cwV 6 hts gX4_byMixedRadices_X4_pass rfl rfl rfl (by decide +kernel) ⟨Nat.le_of_ble_eq_true rfl, Nat.le_of_ble_eq_true rfl⟩) (z_preV (va_recv hK hR (ci := 3) (q0 := 0) rfl rfl) hPc hDc hRc (z_dis (ws := [(qm, .inl (cI, 64, .inl (zA md2))), (he, .inl (cI, 64, .inl (zA g2)))]) (rs := [(h0, .inr (3, [.ref qm, .ref qg, .ref ql, .ref qs, .ref qc])), (h1, .inr (1, [.int (zI p), .int (zI n), .int (zI iv), .int (zI wy), .int (zI gn), .ref hw])), (hw, .inl (cI, 64, .inl (zA pw)))]) (wc := [(qm, .inl (cI, 64, .inl (zA md2))), (he, .inl (cI, 64, .inl (zA g2)))]) (rc := [(h0, .inr (3, [.ref qm, .ref qg, .ref ql, .ref qs, .ref qc])), (h1, .inr (1, [.int (zI p), .int (zI n), .int (zI iv), .int (zI wy), .int (zI gn), .ref hw])), (hw, .inl (cI, 64, .inl (zA pw)))]) hD hR0 (isC := [0, 1]) (isR := [2, 3, 4]) rfl rfl (by decide)) (hK.sub (tys' := [(cI, .int)]) [0] rfl)) rfl rfl hl.1 rfl (lv_room (Nat.le_of_ble_eq_true rfl)) dX4_byMixedRadices_47 ⟨Nat.le_of_ble_eq_true rfl, Nat.le_of_ble_eq_true rfl⟩) hP hD hS hA [0, 1] [] rfl rfl (by decide) (by decide) (cells' := 0) (slots' := 0) rfl rfl (fun u_47 H locs hp_47 hP hD hS => ?_)
      obtain ⟨md2_47, g2_47⟩ := u_47
      have hp_47 : ∀ k, 0 ≤ k → k < sd * (lfac pt) * (pt / (lfac pt)) → g2_47 k = passF p n pw sd (lfac pt) (pt / (lfac pt)) tn g2 k := hp_47
      have hP := hP.sub (ws' := [(qm, .inl (cI, 64, .inl (zA md2_47))), (he, .inl (cI, 64, .inl (zA g2_47)))]) [0, 1] rfl
      have hD := hD.sub (ws' := [(qm, .inl (cI, 64, .inl (zA md2_47))), (he, .inl (cI, 64, .inl (zA g2_47)))]) [0, 1] (by decide) rfl
      have hR := hR0.at hS
      refine lv_iload hx hb dX4_byMixedRadices_50 (lv_at hl 5 rfl) ?_
      refine lv_iload hx hb dX4_byMixedRadices_52 (lv_at hl 8 rfl) ?_
      refine z_imul hx hb dX4_byMixedRadices_54 ?_
      refine lv_istore (lv' := [(5, .int (zI (sd * (lfac pt)))), (0, .ref h0), (1, .ref h1), (2, .ref he), (3, .int (zI sz)), (4, .int (zI tn)), (6, .int (zI (pt / (lfac pt)))), (7, .int (zI st)), (8, .int (zI (lfac pt)))]) hx hb dX4_byMixedRadices_55 hl (by decide) rfl (fun ls hl => ?_)
      have hl := lv_sub hl [1, 2, 3, 4, 5, 0, 6, 7, 8] rfl
      have hl : lv_has ls 9 [(0, .ref h0), (1, .ref h1), (2, .ref he), (3, .int (zI sz)), (4, .int (zI tn)), (5, .int (zI (sd * (lfac pt)))), (6, .int (zI (pt / (lfac pt)))), (7, .int (zI st)), (8, .int (zI (lfac pt)))] := hl
      refine lv_iinc (v := zI (st + 1)) (lv' := [(7, .int (zI (st + 1))), (0, .ref h0), (1, .ref h1), (2, .ref he), (3, .int (zI sz)), (4, .int (zI tn)), (5, .int (zI (sd * (lfac pt)))), (6, .int (zI (pt / (lfac pt)))), (8, .int (zI (lfac pt)))]) hx hb dX4_byMixedRadices_57 hl (k := 7) rfl (zI_add _ _) (by decide) rfl (fun ls hl => ?_)
      have hl := lv_sub hl [1, 2, 3, 4, 5, 6, 7, 0, 8] rfl
      have hl : lv_has ls 9 [(0, .ref h0), (1, .ref h1), (2, .ref he), (3, .int (zI sz)), (4, .int (zI tn)), (5, .int (zI (sd * (lfac pt)))), (6, .int (zI (pt / (lfac pt)))), (7, .int (zI (st + 1))), (8, .int (zI (lfac pt)))] := hl
      refine lv_goto (tgt := 9) hx hb dX4_byMixedRadices_60 (by decide) ?_
      exact ih_9 (sd * (lfac pt), pt / (lfac pt), st + 1, md2_47, g2_47) _ _ _ ⟨(by omega), (by have h9 : 1 * 1 ≤ sd * lfac pt := Int.mul_le_mul hsd.1 (by omega) (by omega) (by omega); omega), (by exact hcut2), (by exact fun t h1 h2 => by rw [hp_47 t h1 (by rw [hcut2]; exact h2)]; exact stk_pass hC hsd.1 (by omega) (by omega) (by rw [hcut2]; exact hdv) (fun t2 a1 a2 => by rw [hf t2 a1 (by rw [hcut.1, hsp] at a2; exact a2), hcut.1]) h1 (by rw [hcut2]; exact h2)), hP, hD, hS, lv_sub hl [0, 1, 2, 3, 4, 5, 6, 7] rfl⟩ (by show (6 - (st + 1)).toNat < (6 - st).toNat; omega)

