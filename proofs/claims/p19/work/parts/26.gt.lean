set_option maxHeartbeats 4000000 in
set_option maxRecDepth 100000 in
theorem c_X4_byGoodAndThomas (l : Launch) (D : va_G) (cI : ClassId) (h0 : Nat) (qm : Nat) (qg : Nat) (ql : Nat) (qs : Nat) (qc : Nat) (h1 : Nat) (p : Int) (n : Int) (iv : Int) (wy : Int) (gn : Int) (hw : Nat) (pw : Int → Int) (he : Nat) (g : Int → Int) (tn : Int) (md : Int → Int) (gd : Int → Int) (ln : Int → Int) (hC : zCH p n pw) (h2n : 2 ≤ n) (hg : ∀ j, 0 ≤ j → j < n → 0 ≤ g j ∧ g j < p) (ht : 0 ≤ tn ∧ tn ≤ 63) : zC l yX4_byGoodAndThomas wsX4_byGoodAndThomas ({ frames := 4, cells := 0, slots := 0, locals := 107 } : Room) D [(cI, .int)] [(qm, .inl (cI, 64, .inl (zA md))), (qg, .inl (cI, 64, .inl (zA gd))), (ql, .inl (cI, 64, .inl (zA ln))), (he, .inl (cI, 64, .inl (zA g)))] [(h0, .inr (3, [.ref qm, .ref qg, .ref ql, .ref qs, .ref qc])), (h1, .inr (1, [.int (zI p), .int (zI n), .int (zI iv), .int (zI wy), .int (zI gn), .ref hw])), (hw, .inl (cI, 64, .inl (zA pw)))] [.ref h0, .ref h1, .ref he, .int (zI tn)] (S := (Int → Int) × (Int → Int) × (Int → Int) × (Int → Int)) (fun (md2, gd2, ln2, g2) => ∀ k, 0 ≤ k → k < n → g2 k = dft p n pw n tn g k) (fun (md2, gd2, ln2, g2) => none) (fun (md2, gd2, ln2, g2) => [(qm, .inl (cI, 64, .inl (zA md2))), (qg, .inl (cI, 64, .inl (zA gd2))), (ql, .inl (cI, 64, .inl (zA ln2))), (he, .inl (cI, 64, .inl (zA g2)))]) := by
  have hnp : 1 ≤ n ∧ n ≤ 64 ∧ 2 ≤ p ∧ p ≤ 10000 := ⟨hC.1, hC.2.1, hC.2.2.1, hC.2.2.2.1⟩
  have hpr := hC.2.2.2.2.1
  obtain ⟨hhw, hw1, -, -⟩ := gt_facts h2n (by omega)
  have hh1 := lpp_rng (n := n) (by omega)
  have hw2 : n / lpp n ≤ 64 := by have h9 : 1 * (n / lpp n) ≤ lpp n * (n / lpp n) := Int.mul_le_mul_of_nonneg_right hh1.1 (by omega); omega
  have hwh : n / lpp n * lpp n = n := by rw [Int.mul_comm]; exact hhw
  have hbh := z_mulb (a := tn) (b := lpp n) (A := 63) (B := 64) (by omega) (by omega) (by omega) (by omega)
  have hbw := z_mulb (a := tn) (b := n / lpp n) (A := 63) (B := 64) (by omega) (by omega) (by omega) (by omega)
  refine z_start (cc := cX4_byGoodAndThomas) (maxL := 9) (ret := none) (own := RX4) (by decide) rfl rfl (Nat.le_of_ble_eq_true rfl) [(0, .ref h0), (1, .ref h1), (2, .ref he), (3, .int (zI tn))] rfl ?_
  intro pp ee s mm below meth cc A H ls hx hb hr hml hts hown hlocks hin hK hA hP hD hS hR0 hR hl
  have CF : CallFix pp mm cc cX4_byGoodAndThomas 9 s ([.ref h0, .ref h1, .ref he, .int (zI tn)] : List Value).toArray wsX4_byGoodAndThomas RX4 := ⟨hx, hb, hml, hown, hts⟩
  have hi4 : ∀ w ∈ wsX40, w ∈ wsX4_byGoodAndThomas := by decide +kernel
  refine lv_aload_n hx hb dX4_byGoodAndThomas_0 rfl (lv_at hl 1 rfl) ?_
  have hRc := z_subR (ws := [(qm, .inl (cI, 64, .inl (zA md))), (qg, .inl (cI, 64, .inl (zA gd))), (ql, .inl (cI, 64, .inl (zA ln))), (he, .inl (cI, 64, .inl (zA g)))]) (rs := [(h0, .inr (3, [.ref qm, .ref qg, .ref ql, .ref qs, .ref qc])), (h1, .inr (1, [.int (zI p), .int (zI n), .int (zI iv), .int (zI wy), .int (zI gn), .ref hw])), (hw, .inl (cI, 64, .inl (zA pw)))]) (rc := [(h1, .inr (1, [.int (zI p), .int (zI n), .int (zI iv), .int (zI wy), .int (zI gn), .ref hw]))]) hP hR (isR := [5]) rfl
  refine z_ro (ws := [(qm, .inl (cI, 64, .inl (zA md))), (qg, .inl (cI, 64, .inl (zA gd))), (ql, .inl (cI, 64, .inl (zA ln))), (he, .inl (cI, 64, .inl (zA g)))]) (va_runV (As := []) (rest := []) CF (c_X2_size l D h1 p n iv wy gn hw H.size) (cwV 0 hts gX4_byGoodAndThomas_X2_size rfl rfl rfl (by decide +kernel) ⟨Nat.le_of_ble_eq_true rfl, Nat.le_of_ble_eq_true rfl⟩) (z_preV (va_recv hK hR (ci := 1) (q0 := 1) rfl rfl) z_nilP (z_nilD (A := A)) hRc z_noX (hK.sub (tys' := []) [] rfl)) rfl rfl hl.1 rfl (lv_room (Nat.le_of_ble_eq_true rfl)) dX4_byGoodAndThomas_1 ⟨Nat.le_of_ble_eq_true rfl, Nat.le_of_ble_eq_true rfl⟩) hP hS hA (cells' := 0) (slots' := 0) rfl rfl (fun H locs hP hS => ?_)
  have hR := hR0.at hS
  refine lv_istore (lv' := [(4, .int (zI n)), (0, .ref h0), (1, .ref h1), (2, .ref he), (3, .int (zI tn))]) hx hb dX4_byGoodAndThomas_4 hl (by decide) rfl (fun ls hl => ?_)
  have hl := lv_sub hl [1, 2, 3, 4, 0] rfl
  have hl : lv_has ls 9 [(0, .ref h0), (1, .ref h1), (2, .ref he), (3, .int (zI tn)), (4, .int (zI n))] := hl
  refine lv_iload hx hb dX4_byGoodAndThomas_6 (lv_at hl 4 rfl) ?_
  have hRc : va_P D vwCl [] H := z_nilP
  refine z_ro (ws := [(qm, .inl (cI, 64, .inl (zA md))), (qg, .inl (cI, 64, .inl (zA gd))), (ql, .inl (cI, 64, .inl (zA ln))), (he, .inl (cI, 64, .inl (zA g)))]) (va_runS (As := [.int (zI n)]) (rest := []) CF (c_X1_leastPrimePart l D n (by omega) H.size) (va_cwS 1 hts gX4_byGoodAndThomas_X1_leastPrimePart rfl rfl rfl (by decide +kernel) ⟨Nat.le_of_ble_eq_true rfl, Nat.le_of_ble_eq_true rfl⟩) (z_preS z_nilP (z_nilD (A := A)) hRc z_noX (hK.sub (tys' := []) [] rfl)) rfl rfl hl.1 rfl (lv_room (Nat.le_of_ble_eq_true rfl)) dX4_byGoodAndThomas_8 ⟨Nat.le_of_ble_eq_true rfl, Nat.le_of_ble_eq_true rfl⟩) hP hS hA (cells' := 0) (slots' := 0) rfl rfl (fun H locs hP hS => ?_)
  have hR := hR0.at hS
  refine lv_istore (lv' := [(5, .int (zI (lpp n))), (0, .ref h0), (1, .ref h1), (2, .ref he), (3, .int (zI tn)), (4, .int (zI n))]) hx hb dX4_byGoodAndThomas_11 hl (by decide) rfl (fun ls hl => ?_)
  have hl := lv_sub hl [1, 2, 3, 4, 5, 0] rfl
  have hl : lv_has ls 9 [(0, .ref h0), (1, .ref h1), (2, .ref he), (3, .int (zI tn)), (4, .int (zI n)), (5, .int (zI (lpp n)))] := hl
  refine lv_iload hx hb dX4_byGoodAndThomas_13 (lv_at hl 5 rfl) ?_
  refine z_iconst hx hb dX4_byGoodAndThomas_15 ?_
  refine z_icmp_ge (tgt := 23) hx hb dX4_byGoodAndThomas_16 (by decide) (by omega) (fun c_16 => ?_) (fun c_16 => absurd c_16 (by omega))
  refine lv_iload hx hb dX4_byGoodAndThomas_23 (lv_at hl 4 rfl) ?_
  refine lv_iload hx hb dX4_byGoodAndThomas_25 (lv_at hl 5 rfl) ?_
  refine z_idiv hx hb dX4_byGoodAndThomas_27 (by omega) (by omega) ?_
  refine lv_istore (lv' := [(6, .int (zI (n / (lpp n)))), (0, .ref h0), (1, .ref h1), (2, .ref he), (3, .int (zI tn)), (4, .int (zI n)), (5, .int (zI (lpp n)))]) hx hb dX4_byGoodAndThomas_28 hl (by decide) rfl (fun ls hl => ?_)
  have hl := lv_sub hl [1, 2, 3, 4, 5, 6, 0] rfl
  have hl : lv_has ls 9 [(0, .ref h0), (1, .ref h1), (2, .ref he), (3, .int (zI tn)), (4, .int (zI n)), (5, .int (zI (lpp n))), (6, .int (zI (n / (lpp n))))] := hl
  refine z_iconst hx hb dX4_byGoodAndThomas_30 ?_
  refine lv_istore (lv' := [(7, .int (zI 0)), (0, .ref h0), (1, .ref h1), (2, .ref he), (3, .int (zI tn)), (4, .int (zI n)), (5, .int (zI (lpp n))), (6, .int (zI (n / (lpp n))))]) hx hb dX4_byGoodAndThomas_31 hl (by decide) rfl (fun ls hl => ?_)
  have hl := lv_sub hl [1, 2, 3, 4, 5, 6, 7, 0] rfl
  have hl : lv_has ls 9 [(0, .ref h0), (1, .ref h1), (2, .ref he), (3, .int (zI tn)), (4, .int (zI n)), (5, .int (zI (lpp n))), (6, .int (zI (n / (lpp n)))), (7, .int (zI 0))] := hl
  refine z_loop (σ := Int × (Int → Int) × (Int → Int) × (Int → Int)) (fun (d, md2, gd2, ln2) => (lpp n - d).toNat) (fun (d, md2, gd2, ln2) H locs ls => (0 ≤ d ∧ d ≤ lpp n) ∧ (∀ t, 0 ≤ t → t < d * (n / lpp n) → gd2 t = gtR p n pw tn g t) ∧ va_P D vwCl [(qm, .inl (cI, 64, .inl (zA md2))), (qg, .inl (cI, 64, .inl (zA gd2))), (ql, .inl (cI, 64, .inl (zA ln2))), (he, .inl (cI, 64, .inl (zA g)))] H ∧ va_D A [(qm, .inl (cI, 64, .inl (zA md2))), (qg, .inl (cI, 64, .inl (zA gd2))), (ql, .inl (cI, 64, .inl (zA ln2))), (he, .inl (cI, 64, .inl (zA g)))] ∧ va_S A s.heap H locs ∧ lv_has ls 9 [(0, .ref h0), (1, .ref h1), (2, .ref he), (3, .int (zI tn)), (4, .int (zI n)), (5, .int (zI (lpp n))), (6, .int (zI (n / (lpp n)))), (7, .int (zI d))]) (0, md, gd, ln) ⟨(by omega), (fun t h1 h2 => absurd h2 (by rw [Int.zero_mul]; omega)), hP, hD, hS, hl⟩ ?_
  intro ⟨d, md2, gd2, ln2⟩ H locs ls hI ih_33
  obtain ⟨hd_, hf, hP, hD, hS, hl⟩ := hI
  have hR := hR0.at hS
  refine lv_iload hx hb dX4_byGoodAndThomas_33 (lv_at hl 7 rfl) ?_
  refine lv_iload hx hb dX4_byGoodAndThomas_35 (lv_at hl 5 rfl) ?_
  refine z_icmp_ge (tgt := 139) hx hb dX4_byGoodAndThomas_37 (by decide) (by omega) (fun c_37 => ?_) (fun c_37 => ?_)
  · refine z_iconst hx hb dX4_byGoodAndThomas_139 ?_
    refine lv_istore (lv' := [(7, .int (zI 0)), (0, .ref h0), (1, .ref h1), (2, .ref he), (3, .int (zI tn)), (4, .int (zI n)), (5, .int (zI (lpp n))), (6, .int (zI (n / (lpp n))))]) hx hb dX4_byGoodAndThomas_140 hl (by decide) rfl (fun ls hl => ?_)
    have hl := lv_sub hl [1, 2, 3, 4, 5, 6, 7, 0] rfl
    have hl : lv_has ls 9 [(0, .ref h0), (1, .ref h1), (2, .ref he), (3, .int (zI tn)), (4, .int (zI n)), (5, .int (zI (lpp n))), (6, .int (zI (n / (lpp n)))), (7, .int (zI 0))] := hl
    refine z_loop (σ := Int × (Int → Int) × (Int → Int) × (Int → Int)) (fun (a, md5, gd5, ln5) => ((n / lpp n) - a).toNat) (fun (a, md5, gd5, ln5) H locs ls => (0 ≤ a ∧ a ≤ (n / lpp n)) ∧ (∀ t, 0 ≤ t → t < n → gd5 t = if t % (n / lpp n) < a then gtC p n pw tn g t else gtR p n pw tn g t) ∧ va_P D vwCl [(qm, .inl (cI, 64, .inl (zA md5))), (qg, .inl (cI, 64, .inl (zA gd5))), (ql, .inl (cI, 64, .inl (zA ln5))), (he, .inl (cI, 64, .inl (zA g)))] H ∧ va_D A [(qm, .inl (cI, 64, .inl (zA md5))), (qg, .inl (cI, 64, .inl (zA gd5))), (ql, .inl (cI, 64, .inl (zA ln5))), (he, .inl (cI, 64, .inl (zA g)))] ∧ va_S A s.heap H locs ∧ lv_has ls 9 [(0, .ref h0), (1, .ref h1), (2, .ref he), (3, .int (zI tn)), (4, .int (zI n)), (5, .int (zI (lpp n))), (6, .int (zI (n / (lpp n)))), (7, .int (zI a))]) (0, md2, gd2, ln2) ⟨(by omega), (by exact fun t h1 h2 => by rw [hf t h1 (by rw [show d = lpp n by omega, hhw]; exact h2), if_neg (by have := z_rem (a := t) hw1; omega)]), hP, hD, hS, hl⟩ ?_
    intro ⟨a, md5, gd5, ln5⟩ H locs ls hI ih_142
    obtain ⟨ha_, hf5, hP, hD, hS, hl⟩ := hI
    have hR := hR0.at hS
    refine lv_iload hx hb dX4_byGoodAndThomas_142 (lv_at hl 7 rfl) ?_
    refine lv_iload hx hb dX4_byGoodAndThomas_144 (lv_at hl 6 rfl) ?_
    refine z_icmp_ge (tgt := 242) hx hb dX4_byGoodAndThomas_146 (by decide) (by omega) (fun c_146 => ?_) (fun c_146 => ?_)
    · refine z_iconst hx hb dX4_byGoodAndThomas_242 ?_
      refine lv_istore (lv' := [(7, .int (zI 0)), (0, .ref h0), (1, .ref h1), (2, .ref he), (3, .int (zI tn)), (4, .int (zI n)), (5, .int (zI (lpp n))), (6, .int (zI (n / (lpp n))))]) hx hb dX4_byGoodAndThomas_243 hl (by decide) rfl (fun ls hl => ?_)
      have hl := lv_sub hl [1, 2, 3, 4, 5, 6, 7, 0] rfl
      have hl : lv_has ls 9 [(0, .ref h0), (1, .ref h1), (2, .ref he), (3, .int (zI tn)), (4, .int (zI n)), (5, .int (zI (lpp n))), (6, .int (zI (n / (lpp n)))), (7, .int (zI 0))] := hl
      refine z_loop (σ := Int × (Int → Int)) (fun (k, g3) => (n - k).toNat) (fun (k, g3) H locs ls => (0 ≤ k ∧ k ≤ n) ∧ (∀ x, 0 ≤ x → x < k → g3 x = dft p n pw n tn g x) ∧ va_P D vwCl [(qm, .inl (cI, 64, .inl (zA md5))), (qg, .inl (cI, 64, .inl (zA gd5))), (ql, .inl (cI, 64, .inl (zA ln5))), (he, .inl (cI, 64, .inl (zA g3)))] H ∧ va_D A [(qm, .inl (cI, 64, .inl (zA md5))), (qg, .inl (cI, 64, .inl (zA gd5))), (ql, .inl (cI, 64, .inl (zA ln5))), (he, .inl (cI, 64, .inl (zA g3)))] ∧ va_S A s.heap H locs ∧ lv_has ls 9 [(0, .ref h0), (1, .ref h1), (2, .ref he), (3, .int (zI tn)), (4, .int (zI n)), (5, .int (zI (lpp n))), (6, .int (zI (n / (lpp n)))), (7, .int (zI k))]) (0, g) ⟨(by omega), (fun t h1 h2 => absurd h2 (by omega)), hP, hD, hS, hl⟩ ?_
      intro ⟨k, g3⟩ H locs ls hI ih_245
      obtain ⟨hk_, hg3, hP, hD, hS, hl⟩ := hI
      have hR := hR0.at hS
      refine lv_iload hx hb dX4_byGoodAndThomas_245 (lv_at hl 7 rfl) ?_
      refine lv_iload hx hb dX4_byGoodAndThomas_247 (lv_at hl 4 rfl) ?_
      refine z_icmp_ge (tgt := 287) hx hb dX4_byGoodAndThomas_249 (by decide) (by omega) (fun c_249 => ?_) (fun c_249 => ?_)
      · exact z_vret hx hb hr hlocks (md5, gd5, ln5, g3) rfl (fun x h1 h2 => hg3 x h1 (by omega)) hP hD hS dX4_byGoodAndThomas_287
      · refine lv_aload_n hx hb dX4_byGoodAndThomas_252 rfl (lv_at hl 2 rfl) ?_
        refine lv_iload hx hb dX4_byGoodAndThomas_253 (lv_at hl 7 rfl) ?_
        refine lv_aload_n hx hb dX4_byGoodAndThomas_255 rfl (lv_at hl 0 rfl) ?_
        refine va_get (D := D) (ci := 3) (C := RX4) (T := TX4) (N := 5) hx hb hts hi4 hown hK hR 0 rfl rfl 1 (by decide) (hts (.fieldLink RX4 15 "ButterflyYard$Transformer" "grid" "[I") (by decide +kernel)) (fun _ h9 => h9) rfl dX4_byGoodAndThomas_256 ?_
        refine lv_iload hx hb dX4_byGoodAndThomas_259 (lv_at hl 7 rfl) ?_
        refine z_i2l hx hb dX4_byGoodAndThomas_261 (by omega) ?_
        refine lv_iload hx hb dX4_byGoodAndThomas_262 (lv_at hl 5 rfl) ?_
        have hRc : va_P D vwCl [] H := z_nilP
        refine z_ro (ws := [(qm, .inl (cI, 64, .inl (zA md5))), (qg, .inl (cI, 64, .inl (zA gd5))), (ql, .inl (cI, 64, .inl (zA ln5))), (he, .inl (cI, 64, .inl (zA g3)))]) (va_runS (As := [.long (zL k), .int (zI (lpp n))]) (rest := [.ref qg, .int (zI k), .ref he]) CF (c_X1_remainder l D k (lpp n) (by omega) (by omega) H.size) (va_cwS 2 hts gX4_byGoodAndThomas_X1_remainder rfl rfl rfl (by decide +kernel) ⟨Nat.le_of_ble_eq_true rfl, Nat.le_of_ble_eq_true rfl⟩) (z_preS z_nilP (z_nilD (A := A)) hRc z_noX (hK.sub (tys' := []) [] rfl)) rfl rfl hl.1 rfl (lv_room (Nat.le_of_ble_eq_true rfl)) dX4_byGoodAndThomas_264 ⟨Nat.le_of_ble_eq_true rfl, Nat.le_of_ble_eq_true rfl⟩) hP hS hA (cells' := 0) (slots' := 0) rfl rfl (fun H locs hP hS => ?_)
        have hR := hR0.at hS
        refine lv_iload hx hb dX4_byGoodAndThomas_267 (lv_at hl 6 rfl) ?_
        refine z_imul hx hb dX4_byGoodAndThomas_269 ?_
        refine lv_iload hx hb dX4_byGoodAndThomas_270 (lv_at hl 7 rfl) ?_
        refine z_i2l hx hb dX4_byGoodAndThomas_272 (by omega) ?_
        refine lv_iload hx hb dX4_byGoodAndThomas_273 (lv_at hl 6 rfl) ?_
        have hRc : va_P D vwCl [] H := z_nilP
        refine z_ro (ws := [(qm, .inl (cI, 64, .inl (zA md5))), (qg, .inl (cI, 64, .inl (zA gd5))), (ql, .inl (cI, 64, .inl (zA ln5))), (he, .inl (cI, 64, .inl (zA g3)))]) (va_runS (As := [.long (zL k), .int (zI (n / (lpp n)))]) (rest := [.int (zI ((k % (lpp n)) * (n / (lpp n)))), .ref qg, .int (zI k), .ref he]) CF (c_X1_remainder l D k (n / (lpp n)) (by omega) (by omega) H.size) (va_cwS 2 hts gX4_byGoodAndThomas_X1_remainder rfl rfl rfl (by decide +kernel) ⟨Nat.le_of_ble_eq_true rfl, Nat.le_of_ble_eq_true rfl⟩) (z_preS z_nilP (z_nilD (A := A)) hRc z_noX (hK.sub (tys' := []) [] rfl)) rfl rfl hl.1 rfl (lv_room (Nat.le_of_ble_eq_true rfl)) dX4_byGoodAndThomas_275 ⟨Nat.le_of_ble_eq_true rfl, Nat.le_of_ble_eq_true rfl⟩) hP hS hA (cells' := 0) (slots' := 0) rfl rfl (fun H locs hP hS => ?_)
        have hR := hR0.at hS
        refine z_iadd hx hb dX4_byGoodAndThomas_278 ?_
        have hr1 := z_rem (a := k) hw1
        have hr2 := z_rem (a := k) hh1.1
        have hix := z_ix (a := k % (n / lpp n)) (A := n / lpp n) (y := k % lpp n) (M := lpp n) hr1 hr2
        rw [hwh, show k % (n / lpp n) + n / lpp n * (k % lpp n) = k % lpp n * (n / lpp n) + k % (n / lpp n) by grind] at hix
        have hdm := z_dm2 (a := k % (n / lpp n)) (w := n / lpp n) (d := k % lpp n) hr1
        refine z_iald (cA := cI) (n := 64) (g := gd5) hx hb hK hP 1 0 rfl rfl rfl (by omega) dX4_byGoodAndThomas_279 ?_
        refine z_iast (cA := cI) (n := 64) (g := g3) (i := k) (v := gd5 (((k % (lpp n)) * (n / (lpp n))) + (k % (n / (lpp n))))) hx hb hK hP hD hS 3 0 rfl rfl rfl (by omega) dX4_byGoodAndThomas_280 (fun H locs hP hD hS => ?_)
        have hP : va_P D vwCl [(qm, .inl (cI, 64, .inl (zA md5))), (qg, .inl (cI, 64, .inl (zA gd5))), (ql, .inl (cI, 64, .inl (zA ln5))), (he, .inl (cI, 64, .inl (zA (zU g3 k (gd5 (((k % (lpp n)) * (n / (lpp n))) + (k % (n / (lpp n)))))))))] H := hP
        have hD : va_D A [(qm, .inl (cI, 64, .inl (zA md5))), (qg, .inl (cI, 64, .inl (zA gd5))), (ql, .inl (cI, 64, .inl (zA ln5))), (he, .inl (cI, 64, .inl (zA (zU g3 k (gd5 (((k % (lpp n)) * (n / (lpp n))) + (k % (n / (lpp n)))))))))] := hD
        have hR := hR0.at hS
        refine lv_iinc (v := zI (k + 1)) (lv' := [(7, .int (zI (k + 1))), (0, .ref h0), (1, .ref h1), (2, .ref he), (3, .int (zI tn)), (4, .int (zI n)), (5, .int (zI (lpp n))), (6, .int (zI (n / (lpp n))))]) hx hb dX4_byGoodAndThomas_281 hl (k := 7) rfl (zI_add _ _) (by decide) rfl (fun ls hl => ?_)
        have hl := lv_sub hl [1, 2, 3, 4, 5, 6, 7, 0] rfl
        have hl : lv_has ls 9 [(0, .ref h0), (1, .ref h1), (2, .ref he), (3, .int (zI tn)), (4, .int (zI n)), (5, .int (zI (lpp n))), (6, .int (zI (n / (lpp n)))), (7, .int (zI (k + 1)))] := hl
        refine lv_goto (tgt := 245) hx hb dX4_byGoodAndThomas_284 (by decide) ?_
        exact ih_245 (k + 1, zU g3 k (gd5 (((k % (lpp n)) * (n / (lpp n))) + (k % (n / (lpp n)))))) _ _ _ ⟨(by omega), (by exact zU_fill hg3 (by rw [hf5 _ hix.1 hix.2, hdm.1, if_pos (by omega)]; exact gt_end hC h2n (by omega))), hP, hD, hS, hl⟩ (by show (n - (k + 1)).toNat < (n - k).toNat; omega)
    · refine z_iconst hx hb dX4_byGoodAndThomas_149 ?_
      refine lv_istore (lv' := [(8, .int (zI 0)), (0, .ref h0), (1, .ref h1), (2, .ref he), (3, .int (zI tn)), (4, .int (zI n)), (5, .int (zI (lpp n))), (6, .int (zI (n / (lpp n)))), (7, .int (zI a))]) hx hb dX4_byGoodAndThomas_150 hl (by decide) rfl (fun ls hl => ?_)
      have hl := lv_sub hl [1, 2, 3, 4, 5, 6, 7, 8, 0] rfl
      have hl : lv_has ls 9 [(0, .ref h0), (1, .ref h1), (2, .ref he), (3, .int (zI tn)), (4, .int (zI n)), (5, .int (zI (lpp n))), (6, .int (zI (n / (lpp n)))), (7, .int (zI a)), (8, .int (zI 0))] := hl
      refine z_loop (σ := Int × (Int → Int)) (fun (d, ln6) => (lpp n - d).toNat) (fun (d, ln6) H locs ls => (0 ≤ d ∧ d ≤ lpp n) ∧ (∀ x, 0 ≤ x → x < d → ln6 x = gtR p n pw tn g (x * (n / lpp n) + a)) ∧ va_P D vwCl [(qm, .inl (cI, 64, .inl (zA md5))), (qg, .inl (cI, 64, .inl (zA gd5))), (ql, .inl (cI, 64, .inl (zA ln6))), (he, .inl (cI, 64, .inl (zA g)))] H ∧ va_D A [(qm, .inl (cI, 64, .inl (zA md5))), (qg, .inl (cI, 64, .inl (zA gd5))), (ql, .inl (cI, 64, .inl (zA ln6))), (he, .inl (cI, 64, .inl (zA g)))] ∧ va_S A s.heap H locs ∧ lv_has ls 9 [(0, .ref h0), (1, .ref h1), (2, .ref he), (3, .int (zI tn)), (4, .int (zI n)), (5, .int (zI (lpp n))), (6, .int (zI (n / (lpp n)))), (7, .int (zI a)), (8, .int (zI d))]) (0, ln5) ⟨(by omega), (fun t h1 h2 => absurd h2 (by omega)), hP, hD, hS, hl⟩ ?_
      intro ⟨d, ln6⟩ H locs ls hI ih_152
      obtain ⟨hd_, hl6, hP, hD, hS, hl⟩ := hI
      have hR := hR0.at hS
      refine lv_iload hx hb dX4_byGoodAndThomas_152 (lv_at hl 8 rfl) ?_
      refine lv_iload hx hb dX4_byGoodAndThomas_154 (lv_at hl 5 rfl) ?_
      refine z_icmp_ge (tgt := 185) hx hb dX4_byGoodAndThomas_156 (by decide) (by omega) (fun c_156 => ?_) (fun c_156 => ?_)
      · refine lv_aload_n hx hb dX4_byGoodAndThomas_185 rfl (lv_at hl 0 rfl) ?_
        refine lv_aload_n hx hb dX4_byGoodAndThomas_186 rfl (lv_at hl 1 rfl) ?_
        refine lv_aload_n hx hb dX4_byGoodAndThomas_187 rfl (lv_at hl 0 rfl) ?_
        refine va_get (D := D) (ci := 3) (C := RX4) (T := TX4) (N := 5) hx hb hts hi4 hown hK hR 0 rfl rfl 2 (by decide) (hts (.fieldLink RX4 18 "ButterflyYard$Transformer" "line" "[I") (by decide +kernel)) (fun _ h9 => h9) rfl dX4_byGoodAndThomas_188 ?_
        refine lv_iload hx hb dX4_byGoodAndThomas_191 (lv_at hl 5 rfl) ?_
        refine lv_iload_n hx hb dX4_byGoodAndThomas_193 rfl (lv_at hl 3 rfl) ?_
        refine lv_iload hx hb dX4_byGoodAndThomas_194 (lv_at hl 6 rfl) ?_
        refine z_imul hx hb dX4_byGoodAndThomas_196 ?_
        have hRc := z_subR (ws := [(qm, .inl (cI, 64, .inl (zA md5))), (qg, .inl (cI, 64, .inl (zA gd5))), (ql, .inl (cI, 64, .inl (zA ln6))), (he, .inl (cI, 64, .inl (zA g)))]) (rs := [(h0, .inr (3, [.ref qm, .ref qg, .ref ql, .ref qs, .ref qc])), (h1, .inr (1, [.int (zI p), .int (zI n), .int (zI iv), .int (zI wy), .int (zI gn), .ref hw])), (hw, .inl (cI, 64, .inl (zA pw)))]) (rc := [(h0, .inr (3, [.ref qm, .ref qg, .ref ql, .ref qs, .ref qc])), (h1, .inr (1, [.int (zI p), .int (zI n), .int (zI iv), .int (zI wy), .int (zI gn), .ref hw])), (hw, .inl (cI, 64, .inl (zA pw)))]) hP hR (isR := [4, 5, 6]) rfl
        have hPc := hP.sub (ws' := [(qm, .inl (cI, 64, .inl (zA md5))), (ql, .inl (cI, 64, .inl (zA ln6)))]) [0, 2] rfl
        have hDc := hD.sub (ws' := [(qm, .inl (cI, 64, .inl (zA md5))), (ql, .inl (cI, 64, .inl (zA ln6)))]) [0, 2] (by decide) rfl
        refine z_mu (ws := [(qm, .inl (cI, 64, .inl (zA md5))), (qg, .inl (cI, 64, .inl (zA gd5))), (ql, .inl (cI, 64, .inl (zA ln6))), (he, .inl (cI, 64, .inl (zA g)))]) (wc := [(qm, .inl (cI, 64, .inl (zA md5))), (ql, .inl (cI, 64, .inl (zA ln6)))]) (wr := [(qg, .inl (cI, 64, .inl (zA gd5))), (he, .inl (cI, 64, .inl (zA g)))]) (va_runV (As := [.ref h1, .ref ql, .int (zI (lpp n)), .int (zI (tn * (n / (lpp n))))]) (rest := []) CF (c_X4_byMixedRadices l D cI h0 qm qg ql qs qc h1 p n iv wy gn hw pw ql ln6 (lpp n) (tn * (n / (lpp n))) md5 (by exact hC) (by omega) (by omega) (by rw [Int.mul_assoc, hwh, Int.mul_emod_left]) (by exact fun j h1 h2 => by rw [hl6 j h1 (by omega)]; exact gtR_rng (by omega)) H.size) (cwV 4 hts gX4_byGoodAndThomas_X4_byMixedRadices rfl rfl rfl (by decide +kernel) ⟨Nat.le_of_ble_eq_true rfl, Nat.le_of_ble_eq_true rfl⟩) (z_preV (va_recv hK hR (ci := 3) (q0 := 0) rfl rfl) hPc hDc hRc (z_dis (ws := [(qm, .inl (cI, 64, .inl (zA md5))), (qg, .inl (cI, 64, .inl (zA gd5))), (ql, .inl (cI, 64, .inl (zA ln6))), (he, .inl (cI, 64, .inl (zA g)))]) (rs := [(h0, .inr (3, [.ref qm, .ref qg, .ref ql, .ref qs, .ref qc])), (h1, .inr (1, [.int (zI p), .int (zI n), .int (zI iv), .int (zI wy), .int (zI gn), .ref hw])), (hw, .inl (cI, 64, .inl (zA pw)))]) (wc := [(qm, .inl (cI, 64, .inl (zA md5))), (ql, .inl (cI, 64, .inl (zA ln6)))]) (rc := [(h0, .inr (3, [.ref qm, .ref qg, .ref ql, .ref qs, .ref qc])), (h1, .inr (1, [.int (zI p), .int (zI n), .int (zI iv), .int (zI wy), .int (zI gn), .ref hw])), (hw, .inl (cI, 64, .inl (zA pw)))]) hD hR0 (isC := [0, 2]) (isR := [4, 5, 6]) rfl rfl (by decide)) (hK.sub (tys' := [(cI, .int)]) [0] rfl)) rfl rfl hl.1 rfl (lv_room (Nat.le_of_ble_eq_true rfl)) dX4_byGoodAndThomas_197 ⟨Nat.le_of_ble_eq_true rfl, Nat.le_of_ble_eq_true rfl⟩) hP hD hS hA [0, 2] [1, 3] rfl rfl (by decide) (by decide) (cells' := 0) (slots' := 0) rfl rfl (fun u_197 H locs hp_197 hP hD hS => ?_)
        obtain ⟨md2_197, g2_197⟩ := u_197
        have hp_197 : ∀ k, 0 ≤ k → k < (lpp n) → g2_197 k = dft p n pw (lpp n) (tn * (n / (lpp n))) ln6 k := hp_197
        have hP := hP.sub (ws' := [(qm, .inl (cI, 64, .inl (zA md2_197))), (qg, .inl (cI, 64, .inl (zA gd5))), (ql, .inl (cI, 64, .inl (zA g2_197))), (he, .inl (cI, 64, .inl (zA g)))]) [2, 0, 3, 1] rfl
        have hD := hD.sub (ws' := [(qm, .inl (cI, 64, .inl (zA md2_197))), (qg, .inl (cI, 64, .inl (zA gd5))), (ql, .inl (cI, 64, .inl (zA g2_197))), (he, .inl (cI, 64, .inl (zA g)))]) [2, 0, 3, 1] (by decide) rfl
        have hR := hR0.at hS
        refine z_iconst hx hb dX4_byGoodAndThomas_200 ?_
        refine lv_istore (lv' := [(8, .int (zI 0)), (0, .ref h0), (1, .ref h1), (2, .ref he), (3, .int (zI tn)), (4, .int (zI n)), (5, .int (zI (lpp n))), (6, .int (zI (n / (lpp n)))), (7, .int (zI a))]) hx hb dX4_byGoodAndThomas_201 hl (by decide) rfl (fun ls hl => ?_)
        have hl := lv_sub hl [1, 2, 3, 4, 5, 6, 7, 8, 0] rfl
        have hl : lv_has ls 9 [(0, .ref h0), (1, .ref h1), (2, .ref he), (3, .int (zI tn)), (4, .int (zI n)), (5, .int (zI (lpp n))), (6, .int (zI (n / (lpp n)))), (7, .int (zI a)), (8, .int (zI 0))] := hl
        have hl7 : ∀ x, 0 ≤ x → x < lpp n → g2_197 x = gtC p n pw tn g (x * (n / lpp n) + a) := fun x h1 h2 => by obtain ⟨q1, q2⟩ := z_dm2 (a := a) (w := n / lpp n) (d := x) (by omega); rw [hp_197 x h1 h2]; unfold gtC; rw [q1, q2]; exact dft_congr (fun j h3 h4 => hl6 j h3 (by omega))
        refine z_loop (σ := Int × (Int → Int)) (fun (d, gd7) => (lpp n - d).toNat) (fun (d, gd7) H locs ls => (0 ≤ d ∧ d ≤ lpp n) ∧ (∀ t, 0 ≤ t → t < n → gd7 t = if t % (n / lpp n) < a ∨ (t % (n / lpp n) = a ∧ t / (n / lpp n) < d) then gtC p n pw tn g t else gtR p n pw tn g t) ∧ va_P D vwCl [(qm, .inl (cI, 64, .inl (zA md2_197))), (qg, .inl (cI, 64, .inl (zA gd7))), (ql, .inl (cI, 64, .inl (zA g2_197))), (he, .inl (cI, 64, .inl (zA g)))] H ∧ va_D A [(qm, .inl (cI, 64, .inl (zA md2_197))), (qg, .inl (cI, 64, .inl (zA gd7))), (ql, .inl (cI, 64, .inl (zA g2_197))), (he, .inl (cI, 64, .inl (zA g)))] ∧ va_S A s.heap H locs ∧ lv_has ls 9 [(0, .ref h0), (1, .ref h1), (2, .ref he), (3, .int (zI tn)), (4, .int (zI n)), (5, .int (zI (lpp n))), (6, .int (zI (n / (lpp n)))), (7, .int (zI a)), (8, .int (zI d))]) (0, gd5) ⟨(by omega), (by exact fun t h1 h2 => by have q2 : 0 ≤ t / (n / lpp n) := Int.ediv_nonneg h1 (by omega); rw [hf5 t h1 h2]; by_cases e : t % (n / lpp n) < a; (rw [if_pos e, if_pos (by omega)]); (rw [if_neg e, if_neg (by omega)])), hP, hD, hS, hl⟩ ?_
        intro ⟨d, gd7⟩ H locs ls hI ih_203
        obtain ⟨hd_, hf7, hP, hD, hS, hl⟩ := hI
        have hR := hR0.at hS
        refine lv_iload hx hb dX4_byGoodAndThomas_203 (lv_at hl 8 rfl) ?_
        refine lv_iload hx hb dX4_byGoodAndThomas_205 (lv_at hl 5 rfl) ?_
        refine z_icmp_ge (tgt := 236) hx hb dX4_byGoodAndThomas_207 (by decide) (by omega) (fun c_207 => ?_) (fun c_207 => ?_)
        · refine lv_iinc (v := zI (a + 1)) (lv' := [(7, .int (zI (a + 1))), (0, .ref h0), (1, .ref h1), (2, .ref he), (3, .int (zI tn)), (4, .int (zI n)), (5, .int (zI (lpp n))), (6, .int (zI (n / (lpp n)))), (8, .int (zI d))]) hx hb dX4_byGoodAndThomas_236 hl (k := 7) rfl (zI_add _ _) (by decide) rfl (fun ls hl => ?_)
          have hl := lv_sub hl [1, 2, 3, 4, 5, 6, 7, 0, 8] rfl
          have hl : lv_has ls 9 [(0, .ref h0), (1, .ref h1), (2, .ref he), (3, .int (zI tn)), (4, .int (zI n)), (5, .int (zI (lpp n))), (6, .int (zI (n / (lpp n)))), (7, .int (zI (a + 1))), (8, .int (zI d))] := hl
          refine lv_goto (tgt := 142) hx hb dX4_byGoodAndThomas_239 (by decide) ?_
          exact ih_142 (a + 1, md2_197, gd7, g2_197) _ _ _ ⟨(by omega), (by exact fun t h1 h2 => by have q1 := z_rem (a := t) hw1; have q2 : t / (n / lpp n) < lpp n := Int.ediv_lt_of_lt_mul (by omega) (by rw [hhw]; exact h2); rw [hf7 t h1 h2]; by_cases e : t % (n / lpp n) < a + 1; (rw [if_pos e, if_pos (by omega)]); (rw [if_neg e, if_neg (by omega)])), hP, hD, hS, lv_sub hl [0, 1, 2, 3, 4, 5, 6, 7] rfl⟩ (by show ((n / lpp n) - (a + 1)).toNat < ((n / lpp n) - a).toNat; omega)
        · refine lv_aload_n hx hb dX4_byGoodAndThomas_210 rfl (lv_at hl 0 rfl) ?_
          refine va_get (D := D) (ci := 3) (C := RX4) (T := TX4) (N := 5) hx hb hts hi4 hown hK hR 0 rfl rfl 1 (by decide) (hts (.fieldLink RX4 15 "ButterflyYard$Transformer" "grid" "[I") (by decide +kernel)) (fun _ h9 => h9) rfl dX4_byGoodAndThomas_211 ?_
          refine lv_iload hx hb dX4_byGoodAndThomas_214 (lv_at hl 8 rfl) ?_
          refine lv_iload hx hb dX4_byGoodAndThomas_216 (lv_at hl 6 rfl) ?_
          refine z_imul hx hb dX4_byGoodAndThomas_218 ?_
          refine lv_iload hx hb dX4_byGoodAndThomas_219 (lv_at hl 7 rfl) ?_
          refine z_iadd hx hb dX4_byGoodAndThomas_221 ?_
          refine lv_aload_n hx hb dX4_byGoodAndThomas_222 rfl (lv_at hl 0 rfl) ?_
          refine va_get (D := D) (ci := 3) (C := RX4) (T := TX4) (N := 5) hx hb hts hi4 hown hK hR 0 rfl rfl 2 (by decide) (hts (.fieldLink RX4 18 "ButterflyYard$Transformer" "line" "[I") (by decide +kernel)) (fun _ h9 => h9) rfl dX4_byGoodAndThomas_223 ?_
          refine lv_iload hx hb dX4_byGoodAndThomas_226 (lv_at hl 8 rfl) ?_
          have hix := z_ix (a := a) (A := n / lpp n) (y := d) (M := lpp n) (by omega) (by omega)
          rw [hwh, show a + n / lpp n * d = d * (n / lpp n) + a by grind] at hix
          have hdm := z_dm2 (a := a) (w := n / lpp n) (d := d) (by omega)
          refine z_iald (cA := cI) (n := 64) (g := g2_197) hx hb hK hP 2 0 rfl rfl rfl (by omega) dX4_byGoodAndThomas_228 ?_
          refine z_iast (cA := cI) (n := 64) (g := gd7) (i := (d * (n / (lpp n))) + a) (v := g2_197 d) hx hb hK hP hD hS 1 0 rfl rfl rfl (by omega) dX4_byGoodAndThomas_229 (fun H locs hP hD hS => ?_)
          have hP : va_P D vwCl [(qm, .inl (cI, 64, .inl (zA md2_197))), (qg, .inl (cI, 64, .inl (zA (zU gd7 ((d * (n / (lpp n))) + a) (g2_197 d))))), (ql, .inl (cI, 64, .inl (zA g2_197))), (he, .inl (cI, 64, .inl (zA g)))] H := hP
          have hD : va_D A [(qm, .inl (cI, 64, .inl (zA md2_197))), (qg, .inl (cI, 64, .inl (zA (zU gd7 ((d * (n / (lpp n))) + a) (g2_197 d))))), (ql, .inl (cI, 64, .inl (zA g2_197))), (he, .inl (cI, 64, .inl (zA g)))] := hD
          have hR := hR0.at hS
          refine lv_iinc (v := zI (d + 1)) (lv' := [(8, .int (zI (d + 1))), (0, .ref h0), (1, .ref h1), (2, .ref he), (3, .int (zI tn)), (4, .int (zI n)), (5, .int (zI (lpp n))), (6, .int (zI (n / (lpp n)))), (7, .int (zI a))]) hx hb dX4_byGoodAndThomas_230 hl (k := 8) rfl (zI_add _ _) (by decide) rfl (fun ls hl => ?_)
          have hl := lv_sub hl [1, 2, 3, 4, 5, 6, 7, 8, 0] rfl
          have hl : lv_has ls 9 [(0, .ref h0), (1, .ref h1), (2, .ref he), (3, .int (zI tn)), (4, .int (zI n)), (5, .int (zI (lpp n))), (6, .int (zI (n / (lpp n)))), (7, .int (zI a)), (8, .int (zI (d + 1)))] := hl
          refine lv_goto (tgt := 203) hx hb dX4_byGoodAndThomas_233 (by decide) ?_
          exact ih_203 (d + 1, zU gd7 ((d * (n / (lpp n))) + a) (g2_197 d)) _ _ _ ⟨(by omega), (by exact fun t h1 h2 => by by_cases e : t = d * (n / lpp n) + a; (subst e; rw [zU_s, hdm.1, hdm.2, if_pos (by omega), hl7 d (by omega) (by omega)]); (rw [zU_n _ _ e, hf7 t h1 h2]; have q3 := Int.emod_add_mul_ediv t (n / lpp n); have q5 : t % (n / lpp n) = a → t / (n / lpp n) ≠ d := (fun z1 z2 => e (by rw [z1, z2, Int.mul_comm] at q3; omega)); by_cases q4 : t % (n / lpp n) < a ∨ (t % (n / lpp n) = a ∧ t / (n / lpp n) < d + 1); (rw [if_pos q4, if_pos (by omega)]); (rw [if_neg q4, if_neg (by omega)]))), hP, hD, hS, hl⟩ (by show (lpp n - (d + 1)).toNat < (lpp n - d).toNat; omega)
      · refine lv_aload_n hx hb dX4_byGoodAndThomas_159 rfl (lv_at hl 0 rfl) ?_
        refine va_get (D := D) (ci := 3) (C := RX4) (T := TX4) (N := 5) hx hb hts hi4 hown hK hR 0 rfl rfl 2 (by decide) (hts (.fieldLink RX4 18 "ButterflyYard$Transformer" "line" "[I") (by decide +kernel)) (fun _ h9 => h9) rfl dX4_byGoodAndThomas_160 ?_
        refine lv_iload hx hb dX4_byGoodAndThomas_163 (lv_at hl 8 rfl) ?_
        refine lv_aload_n hx hb dX4_byGoodAndThomas_165 rfl (lv_at hl 0 rfl) ?_
        refine va_get (D := D) (ci := 3) (C := RX4) (T := TX4) (N := 5) hx hb hts hi4 hown hK hR 0 rfl rfl 1 (by decide) (hts (.fieldLink RX4 15 "ButterflyYard$Transformer" "grid" "[I") (by decide +kernel)) (fun _ h9 => h9) rfl dX4_byGoodAndThomas_166 ?_
        refine lv_iload hx hb dX4_byGoodAndThomas_169 (lv_at hl 8 rfl) ?_
        refine lv_iload hx hb dX4_byGoodAndThomas_171 (lv_at hl 6 rfl) ?_
        refine z_imul hx hb dX4_byGoodAndThomas_173 ?_
        refine lv_iload hx hb dX4_byGoodAndThomas_174 (lv_at hl 7 rfl) ?_
        refine z_iadd hx hb dX4_byGoodAndThomas_176 ?_
        have hix := z_ix (a := a) (A := n / lpp n) (y := d) (M := lpp n) (by omega) (by omega)
        rw [hwh, show a + n / lpp n * d = d * (n / lpp n) + a by grind] at hix
        have hdm := z_dm2 (a := a) (w := n / lpp n) (d := d) (by omega)
        refine z_iald (cA := cI) (n := 64) (g := gd5) hx hb hK hP 1 0 rfl rfl rfl (by omega) dX4_byGoodAndThomas_177 ?_
        refine z_iast (cA := cI) (n := 64) (g := ln6) (i := d) (v := gd5 ((d * (n / (lpp n))) + a)) hx hb hK hP hD hS 2 0 rfl rfl rfl (by omega) dX4_byGoodAndThomas_178 (fun H locs hP hD hS => ?_)
        have hP : va_P D vwCl [(qm, .inl (cI, 64, .inl (zA md5))), (qg, .inl (cI, 64, .inl (zA gd5))), (ql, .inl (cI, 64, .inl (zA (zU ln6 d (gd5 ((d * (n / (lpp n))) + a)))))), (he, .inl (cI, 64, .inl (zA g)))] H := hP
        have hD : va_D A [(qm, .inl (cI, 64, .inl (zA md5))), (qg, .inl (cI, 64, .inl (zA gd5))), (ql, .inl (cI, 64, .inl (zA (zU ln6 d (gd5 ((d * (n / (lpp n))) + a)))))), (he, .inl (cI, 64, .inl (zA g)))] := hD
        have hR := hR0.at hS
        refine lv_iinc (v := zI (d + 1)) (lv' := [(8, .int (zI (d + 1))), (0, .ref h0), (1, .ref h1), (2, .ref he), (3, .int (zI tn)), (4, .int (zI n)), (5, .int (zI (lpp n))), (6, .int (zI (n / (lpp n)))), (7, .int (zI a))]) hx hb dX4_byGoodAndThomas_179 hl (k := 8) rfl (zI_add _ _) (by decide) rfl (fun ls hl => ?_)
        have hl := lv_sub hl [1, 2, 3, 4, 5, 6, 7, 8, 0] rfl
        have hl : lv_has ls 9 [(0, .ref h0), (1, .ref h1), (2, .ref he), (3, .int (zI tn)), (4, .int (zI n)), (5, .int (zI (lpp n))), (6, .int (zI (n / (lpp n)))), (7, .int (zI a)), (8, .int (zI (d + 1)))] := hl
        refine lv_goto (tgt := 152) hx hb dX4_byGoodAndThomas_182 (by decide) ?_
        exact ih_152 (d + 1, zU ln6 d (gd5 ((d * (n / (lpp n))) + a))) _ _ _ ⟨(by omega), (by exact zU_fill hl6 (by rw [hf5 _ hix.1 hix.2, hdm.1, if_neg (by omega)])), hP, hD, hS, hl⟩ (by show (lpp n - (d + 1)).toNat < (lpp n - d).toNat; omega)
  · refine z_iconst hx hb dX4_byGoodAndThomas_40 ?_
    refine lv_istore (lv' := [(8, .int (zI 0)), (0, .ref h0), (1, .ref h1), (2, .ref he), (3, .int (zI tn)), (4, .int (zI n)), (5, .int (zI (lpp n))), (6, .int (zI (n / (lpp n)))), (7, .int (zI d))]) hx hb dX4_byGoodAndThomas_41 hl (by decide) rfl (fun ls hl => ?_)
    have hl := lv_sub hl [1, 2, 3, 4, 5, 6, 7, 8, 0] rfl
    have hl : lv_has ls 9 [(0, .ref h0), (1, .ref h1), (2, .ref he), (3, .int (zI tn)), (4, .int (zI n)), (5, .int (zI (lpp n))), (6, .int (zI (n / (lpp n)))), (7, .int (zI d)), (8, .int (zI 0))] := hl
    refine z_loop (σ := Int × (Int → Int)) (fun (a, ln3) => ((n / lpp n) - a).toNat) (fun (a, ln3) H locs ls => (0 ≤ a ∧ a ≤ (n / lpp n)) ∧ (∀ x, 0 ≤ x → x < a → ln3 x = g (((n / lpp n) * d + lpp n * x) % n)) ∧ va_P D vwCl [(qm, .inl (cI, 64, .inl (zA md2))), (qg, .inl (cI, 64, .inl (zA gd2))), (ql, .inl (cI, 64, .inl (zA ln3))), (he, .inl (cI, 64, .inl (zA g)))] H ∧ va_D A [(qm, .inl (cI, 64, .inl (zA md2))), (qg, .inl (cI, 64, .inl (zA gd2))), (ql, .inl (cI, 64, .inl (zA ln3))), (he, .inl (cI, 64, .inl (zA g)))] ∧ va_S A s.heap H locs ∧ lv_has ls 9 [(0, .ref h0), (1, .ref h1), (2, .ref he), (3, .int (zI tn)), (4, .int (zI n)), (5, .int (zI (lpp n))), (6, .int (zI (n / (lpp n)))), (7, .int (zI d)), (8, .int (zI a))]) (0, ln2) ⟨(by omega), (fun t h1 h2 => absurd h2 (by omega)), hP, hD, hS, hl⟩ ?_
    intro ⟨a, ln3⟩ H locs ls hI ih_43
    obtain ⟨ha_, hl3, hP, hD, hS, hl⟩ := hI
    have hR := hR0.at hS
    refine lv_iload hx hb dX4_byGoodAndThomas_43 (lv_at hl 8 rfl) ?_
    refine lv_iload hx hb dX4_byGoodAndThomas_45 (lv_at hl 6 rfl) ?_
    refine z_icmp_ge (tgt := 82) hx hb dX4_byGoodAndThomas_47 (by decide) (by omega) (fun c_47 => ?_) (fun c_47 => ?_)
    · refine lv_aload_n hx hb dX4_byGoodAndThomas_82 rfl (lv_at hl 0 rfl) ?_
      refine lv_aload_n hx hb dX4_byGoodAndThomas_83 rfl (lv_at hl 1 rfl) ?_
      refine lv_aload_n hx hb dX4_byGoodAndThomas_84 rfl (lv_at hl 0 rfl) ?_
      refine va_get (D := D) (ci := 3) (C := RX4) (T := TX4) (N := 5) hx hb hts hi4 hown hK hR 0 rfl rfl 2 (by decide) (hts (.fieldLink RX4 18 "ButterflyYard$Transformer" "line" "[I") (by decide +kernel)) (fun _ h9 => h9) rfl dX4_byGoodAndThomas_85 ?_
      refine lv_iload hx hb dX4_byGoodAndThomas_88 (lv_at hl 6 rfl) ?_
      refine lv_iload_n hx hb dX4_byGoodAndThomas_90 rfl (lv_at hl 3 rfl) ?_
      refine lv_iload hx hb dX4_byGoodAndThomas_91 (lv_at hl 5 rfl) ?_
      refine z_imul hx hb dX4_byGoodAndThomas_93 ?_
      have hRc := z_subR (ws := [(qm, .inl (cI, 64, .inl (zA md2))), (qg, .inl (cI, 64, .inl (zA gd2))), (ql, .inl (cI, 64, .inl (zA ln3))), (he, .inl (cI, 64, .inl (zA g)))]) (rs := [(h0, .inr (3, [.ref qm, .ref qg, .ref ql, .ref qs, .ref qc])), (h1, .inr (1, [.int (zI p), .int (zI n), .int (zI iv), .int (zI wy), .int (zI gn), .ref hw])), (hw, .inl (cI, 64, .inl (zA pw)))]) (rc := [(h0, .inr (3, [.ref qm, .ref qg, .ref ql, .ref qs, .ref qc])), (h1, .inr (1, [.int (zI p), .int (zI n), .int (zI iv), .int (zI wy), .int (zI gn), .ref hw])), (hw, .inl (cI, 64, .inl (zA pw)))]) hP hR (isR := [4, 5, 6]) rfl
      have hPc := hP.sub (ws' := [(qm, .inl (cI, 64, .inl (zA md2))), (ql, .inl (cI, 64, .inl (zA ln3)))]) [0, 2] rfl
      have hDc := hD.sub (ws' := [(qm, .inl (cI, 64, .inl (zA md2))), (ql, .inl (cI, 64, .inl (zA ln3)))]) [0, 2] (by decide) rfl
      refine z_mu (ws := [(qm, .inl (cI, 64, .inl (zA md2))), (qg, .inl (cI, 64, .inl (zA gd2))), (ql, .inl (cI, 64, .inl (zA ln3))), (he, .inl (cI, 64, .inl (zA g)))]) (wc := [(qm, .inl (cI, 64, .inl (zA md2))), (ql, .inl (cI, 64, .inl (zA ln3)))]) (wr := [(qg, .inl (cI, 64, .inl (zA gd2))), (he, .inl (cI, 64, .inl (zA g)))]) (va_runV (As := [.ref h1, .ref ql, .int (zI (n / (lpp n))), .int (zI (tn * (lpp n)))]) (rest := []) CF (c_X4_byMixedRadices l D cI h0 qm qg ql qs qc h1 p n iv wy gn hw pw ql ln3 (n / (lpp n)) (tn * (lpp n)) md2 (by exact hC) (by omega) (by omega) (by rw [Int.mul_assoc, hhw, Int.mul_emod_left]) (by exact fun j h1 h2 => by rw [hl3 j h1 (by omega)]; have q := z_rem (a := n / lpp n * d + lpp n * j) (n := n) (by omega); exact hg _ q.1 q.2) H.size) (cwV 4 hts gX4_byGoodAndThomas_X4_byMixedRadices rfl rfl rfl (by decide +kernel) ⟨Nat.le_of_ble_eq_true rfl, Nat.le_of_ble_eq_true rfl⟩) (z_preV (va_recv hK hR (ci := 3) (q0 := 0) rfl rfl) hPc hDc hRc (z_dis (ws := [(qm, .inl (cI, 64, .inl (zA md2))), (qg, .inl (cI, 64, .inl (zA gd2))), (ql, .inl (cI, 64, .inl (zA ln3))), (he, .inl (cI, 64, .inl (zA g)))]) (rs := [(h0, .inr (3, [.ref qm, .ref qg, .ref ql, .ref qs, .ref qc])), (h1, .inr (1, [.int (zI p), .int (zI n), .int (zI iv), .int (zI wy), .int (zI gn), .ref hw])), (hw, .inl (cI, 64, .inl (zA pw)))]) (wc := [(qm, .inl (cI, 64, .inl (zA md2))), (ql, .inl (cI, 64, .inl (zA ln3)))]) (rc := [(h0, .inr (3, [.ref qm, .ref qg, .ref ql, .ref qs, .ref qc])), (h1, .inr (1, [.int (zI p), .int (zI n), .int (zI iv), .int (zI wy), .int (zI gn), .ref hw])), (hw, .inl (cI, 64, .inl (zA pw)))]) hD hR0 (isC := [0, 2]) (isR := [4, 5, 6]) rfl rfl (by decide)) (hK.sub (tys' := [(cI, .int)]) [0] rfl)) rfl rfl hl.1 rfl (lv_room (Nat.le_of_ble_eq_true rfl)) dX4_byGoodAndThomas_94 ⟨Nat.le_of_ble_eq_true rfl, Nat.le_of_ble_eq_true rfl⟩) hP hD hS hA [0, 2] [1, 3] rfl rfl (by decide) (by decide) (cells' := 0) (slots' := 0) rfl rfl (fun u_94 H locs hp_94 hP hD hS => ?_)
      obtain ⟨md2_94, g2_94⟩ := u_94
      have hp_94 : ∀ k, 0 ≤ k → k < (n / (lpp n)) → g2_94 k = dft p n pw (n / (lpp n)) (tn * (lpp n)) ln3 k := hp_94
      have hP := hP.sub (ws' := [(qm, .inl (cI, 64, .inl (zA md2_94))), (qg, .inl (cI, 64, .inl (zA gd2))), (ql, .inl (cI, 64, .inl (zA g2_94))), (he, .inl (cI, 64, .inl (zA g)))]) [2, 0, 3, 1] rfl
      have hD := hD.sub (ws' := [(qm, .inl (cI, 64, .inl (zA md2_94))), (qg, .inl (cI, 64, .inl (zA gd2))), (ql, .inl (cI, 64, .inl (zA g2_94))), (he, .inl (cI, 64, .inl (zA g)))]) [2, 0, 3, 1] (by decide) rfl
      have hR := hR0.at hS
      refine z_iconst hx hb dX4_byGoodAndThomas_97 ?_
      refine lv_istore (lv' := [(8, .int (zI 0)), (0, .ref h0), (1, .ref h1), (2, .ref he), (3, .int (zI tn)), (4, .int (zI n)), (5, .int (zI (lpp n))), (6, .int (zI (n / (lpp n)))), (7, .int (zI d))]) hx hb dX4_byGoodAndThomas_98 hl (by decide) rfl (fun ls hl => ?_)
      have hl := lv_sub hl [1, 2, 3, 4, 5, 6, 7, 8, 0] rfl
      have hl : lv_has ls 9 [(0, .ref h0), (1, .ref h1), (2, .ref he), (3, .int (zI tn)), (4, .int (zI n)), (5, .int (zI (lpp n))), (6, .int (zI (n / (lpp n)))), (7, .int (zI d)), (8, .int (zI 0))] := hl
      have hl4 : ∀ x, 0 ≤ x → x < n / lpp n → g2_94 x = gtR p n pw tn g (d * (n / lpp n) + x) := fun x h1 h2 => by obtain ⟨q1, q2⟩ := z_dm2 (d := d) ⟨h1, h2⟩; rw [hp_94 x h1 h2]; unfold gtR; rw [q1, q2]; exact dft_congr (fun j h3 h4 => hl3 j h3 (by omega))
      refine z_loop (σ := Int × (Int → Int)) (fun (a, gd4) => ((n / lpp n) - a).toNat) (fun (a, gd4) H locs ls => (0 ≤ a ∧ a ≤ (n / lpp n)) ∧ (∀ t, 0 ≤ t → t < d * (n / lpp n) + a → gd4 t = gtR p n pw tn g t) ∧ va_P D vwCl [(qm, .inl (cI, 64, .inl (zA md2_94))), (qg, .inl (cI, 64, .inl (zA gd4))), (ql, .inl (cI, 64, .inl (zA g2_94))), (he, .inl (cI, 64, .inl (zA g)))] H ∧ va_D A [(qm, .inl (cI, 64, .inl (zA md2_94))), (qg, .inl (cI, 64, .inl (zA gd4))), (ql, .inl (cI, 64, .inl (zA g2_94))), (he, .inl (cI, 64, .inl (zA g)))] ∧ va_S A s.heap H locs ∧ lv_has ls 9 [(0, .ref h0), (1, .ref h1), (2, .ref he), (3, .int (zI tn)), (4, .int (zI n)), (5, .int (zI (lpp n))), (6, .int (zI (n / (lpp n)))), (7, .int (zI d)), (8, .int (zI a))]) (0, gd2) ⟨(by omega), (by exact fun t h1 h2 => hf t h1 (by omega)), hP, hD, hS, hl⟩ ?_
      intro ⟨a, gd4⟩ H locs ls hI ih_100
      obtain ⟨ha_, hf4, hP, hD, hS, hl⟩ := hI
      have hR := hR0.at hS
      refine lv_iload hx hb dX4_byGoodAndThomas_100 (lv_at hl 8 rfl) ?_
      refine lv_iload hx hb dX4_byGoodAndThomas_102 (lv_at hl 6 rfl) ?_
      refine z_icmp_ge (tgt := 133) hx hb dX4_byGoodAndThomas_104 (by decide) (by omega) (fun c_104 => ?_) (fun c_104 => ?_)
      · refine lv_iinc (v := zI (d + 1)) (lv' := [(7, .int (zI (d + 1))), (0, .ref h0), (1, .ref h1), (2, .ref he), (3, .int (zI tn)), (4, .int (zI n)), (5, .int (zI (lpp n))), (6, .int (zI (n / (lpp n)))), (8, .int (zI a))]) hx hb dX4_byGoodAndThomas_133 hl (k := 7) rfl (zI_add _ _) (by decide) rfl (fun ls hl => ?_)
        have hl := lv_sub hl [1, 2, 3, 4, 5, 6, 7, 0, 8] rfl
        have hl : lv_has ls 9 [(0, .ref h0), (1, .ref h1), (2, .ref he), (3, .int (zI tn)), (4, .int (zI n)), (5, .int (zI (lpp n))), (6, .int (zI (n / (lpp n)))), (7, .int (zI (d + 1))), (8, .int (zI a))] := hl
        refine lv_goto (tgt := 33) hx hb dX4_byGoodAndThomas_136 (by decide) ?_
        exact ih_33 (d + 1, md2_94, gd4, g2_94) _ _ _ ⟨(by omega), (by exact fun t h1 h2 => hf4 t h1 (by rw [show a = n / lpp n by omega, show d * (n / lpp n) + n / lpp n = (d + 1) * (n / lpp n) by grind]; exact h2)), hP, hD, hS, lv_sub hl [0, 1, 2, 3, 4, 5, 6, 7] rfl⟩ (by show (lpp n - (d + 1)).toNat < (lpp n - d).toNat; omega)
      · refine lv_aload_n hx hb dX4_byGoodAndThomas_107 rfl (lv_at hl 0 rfl) ?_
        refine va_get (D := D) (ci := 3) (C := RX4) (T := TX4) (N := 5) hx hb hts hi4 hown hK hR 0 rfl rfl 1 (by decide) (hts (.fieldLink RX4 15 "ButterflyYard$Transformer" "grid" "[I") (by decide +kernel)) (fun _ h9 => h9) rfl dX4_byGoodAndThomas_108 ?_
        refine lv_iload hx hb dX4_byGoodAndThomas_111 (lv_at hl 7 rfl) ?_
        refine lv_iload hx hb dX4_byGoodAndThomas_113 (lv_at hl 6 rfl) ?_
        refine z_imul hx hb dX4_byGoodAndThomas_115 ?_
        refine lv_iload hx hb dX4_byGoodAndThomas_116 (lv_at hl 8 rfl) ?_
        refine z_iadd hx hb dX4_byGoodAndThomas_118 ?_
        refine lv_aload_n hx hb dX4_byGoodAndThomas_119 rfl (lv_at hl 0 rfl) ?_
        refine va_get (D := D) (ci := 3) (C := RX4) (T := TX4) (N := 5) hx hb hts hi4 hown hK hR 0 rfl rfl 2 (by decide) (hts (.fieldLink RX4 18 "ButterflyYard$Transformer" "line" "[I") (by decide +kernel)) (fun _ h9 => h9) rfl dX4_byGoodAndThomas_120 ?_
        refine lv_iload hx hb dX4_byGoodAndThomas_123 (lv_at hl 8 rfl) ?_
        have hix := z_ix (a := a) (A := n / lpp n) (y := d) (M := lpp n) (by omega) (by omega)
        rw [hwh, show a + n / lpp n * d = d * (n / lpp n) + a by grind] at hix
        refine z_iald (cA := cI) (n := 64) (g := g2_94) hx hb hK hP 2 0 rfl rfl rfl (by omega) dX4_byGoodAndThomas_125 ?_
        refine z_iast (cA := cI) (n := 64) (g := gd4) (i := (d * (n / (lpp n))) + a) (v := g2_94 a) hx hb hK hP hD hS 1 0 rfl rfl rfl (by omega) dX4_byGoodAndThomas_126 (fun H locs hP hD hS => ?_)
        have hP : va_P D vwCl [(qm, .inl (cI, 64, .inl (zA md2_94))), (qg, .inl (cI, 64, .inl (zA (zU gd4 ((d * (n / (lpp n))) + a) (g2_94 a))))), (ql, .inl (cI, 64, .inl (zA g2_94))), (he, .inl (cI, 64, .inl (zA g)))] H := hP
        have hD : va_D A [(qm, .inl (cI, 64, .inl (zA md2_94))), (qg, .inl (cI, 64, .inl (zA (zU gd4 ((d * (n / (lpp n))) + a) (g2_94 a))))), (ql, .inl (cI, 64, .inl (zA g2_94))), (he, .inl (cI, 64, .inl (zA g)))] := hD
        have hR := hR0.at hS
        refine lv_iinc (v := zI (a + 1)) (lv' := [(8, .int (zI (a + 1))), (0, .ref h0), (1, .ref h1), (2, .ref he), (3, .int (zI tn)), (4, .int (zI n)), (5, .int (zI (lpp n))), (6, .int (zI (n / (lpp n)))), (7, .int (zI d))]) hx hb dX4_byGoodAndThomas_127 hl (k := 8) rfl (zI_add _ _) (by decide) rfl (fun ls hl => ?_)
        have hl := lv_sub hl [1, 2, 3, 4, 5, 6, 7, 8, 0] rfl
        have hl : lv_has ls 9 [(0, .ref h0), (1, .ref h1), (2, .ref he), (3, .int (zI tn)), (4, .int (zI n)), (5, .int (zI (lpp n))), (6, .int (zI (n / (lpp n)))), (7, .int (zI d)), (8, .int (zI (a + 1)))] := hl
        refine lv_goto (tgt := 100) hx hb dX4_byGoodAndThomas_130 (by decide) ?_
        exact ih_100 (a + 1, zU gd4 ((d * (n / (lpp n))) + a) (g2_94 a)) _ _ _ ⟨(by omega), (by exact fun t h1 h2 => by by_cases e : t = d * (n / lpp n) + a; (subst e; rw [zU_s, hl4 a (by omega) (by omega)]); (rw [zU_n _ _ e]; exact hf4 t h1 (by omega))), hP, hD, hS, hl⟩ (by show ((n / lpp n) - (a + 1)).toNat < ((n / lpp n) - a).toNat; omega)
    · refine lv_aload_n hx hb dX4_byGoodAndThomas_50 rfl (lv_at hl 0 rfl) ?_
      refine va_get (D := D) (ci := 3) (C := RX4) (T := TX4) (N := 5) hx hb hts hi4 hown hK hR 0 rfl rfl 2 (by decide) (hts (.fieldLink RX4 18 "ButterflyYard$Transformer" "line" "[I") (by decide +kernel)) (fun _ h9 => h9) rfl dX4_byGoodAndThomas_51 ?_
      refine lv_iload hx hb dX4_byGoodAndThomas_54 (lv_at hl 8 rfl) ?_
      refine lv_aload_n hx hb dX4_byGoodAndThomas_56 rfl (lv_at hl 2 rfl) ?_
      refine lv_iload hx hb dX4_byGoodAndThomas_57 (lv_at hl 6 rfl) ?_
      refine lv_iload hx hb dX4_byGoodAndThomas_59 (lv_at hl 7 rfl) ?_
      refine z_imul hx hb dX4_byGoodAndThomas_61 ?_
      refine lv_iload hx hb dX4_byGoodAndThomas_62 (lv_at hl 5 rfl) ?_
      refine lv_iload hx hb dX4_byGoodAndThomas_64 (lv_at hl 8 rfl) ?_
      refine z_imul hx hb dX4_byGoodAndThomas_66 ?_
      refine z_iadd hx hb dX4_byGoodAndThomas_67 ?_
      have hb1 := z_mulb (a := n / lpp n) (b := d) (A := 64) (B := 64) (by omega) (by omega) (by omega) (by omega)
      have hb2 := z_mulb (a := lpp n) (b := a) (A := 64) (B := 64) (by omega) (by omega) (by omega) (by omega)
      refine z_i2l hx hb dX4_byGoodAndThomas_68 (by omega) ?_
      refine lv_iload hx hb dX4_byGoodAndThomas_69 (lv_at hl 4 rfl) ?_
      have hRc : va_P D vwCl [] H := z_nilP
      refine z_ro (ws := [(qm, .inl (cI, 64, .inl (zA md2))), (qg, .inl (cI, 64, .inl (zA gd2))), (ql, .inl (cI, 64, .inl (zA ln3))), (he, .inl (cI, 64, .inl (zA g)))]) (va_runS (As := [.long (zL (((n / (lpp n)) * d) + ((lpp n) * a))), .int (zI n)]) (rest := [.ref he, .int (zI a), .ref ql]) CF (c_X1_remainder l D (((n / (lpp n)) * d) + ((lpp n) * a)) n (by omega) (by omega) H.size) (va_cwS 2 hts gX4_byGoodAndThomas_X1_remainder rfl rfl rfl (by decide +kernel) ⟨Nat.le_of_ble_eq_true rfl, Nat.le_of_ble_eq_true rfl⟩) (z_preS z_nilP (z_nilD (A := A)) hRc z_noX (hK.sub (tys' := []) [] rfl)) rfl rfl hl.1 rfl (lv_room (Nat.le_of_ble_eq_true rfl)) dX4_byGoodAndThomas_71 ⟨Nat.le_of_ble_eq_true rfl, Nat.le_of_ble_eq_true rfl⟩) hP hS hA (cells' := 0) (slots' := 0) rfl rfl (fun H locs hP hS => ?_)
      have hR := hR0.at hS
      have hq := z_rem (a := n / lpp n * d + lpp n * a) (n := n) (by omega)
      refine z_iald (cA := cI) (n := 64) (g := g) hx hb hK hP 3 0 rfl rfl rfl (by omega) dX4_byGoodAndThomas_74 ?_
      refine z_iast (cA := cI) (n := 64) (g := ln3) (i := a) (v := g ((((n / (lpp n)) * d) + ((lpp n) * a)) % n)) hx hb hK hP hD hS 2 0 rfl rfl rfl (by omega) dX4_byGoodAndThomas_75 (fun H locs hP hD hS => ?_)
      have hP : va_P D vwCl [(qm, .inl (cI, 64, .inl (zA md2))), (qg, .inl (cI, 64, .inl (zA gd2))), (ql, .inl (cI, 64, .inl (zA (zU ln3 a (g ((((n / (lpp n)) * d) + ((lpp n) * a)) % n)))))), (he, .inl (cI, 64, .inl (zA g)))] H := hP
      have hD : va_D A [(qm, .inl (cI, 64, .inl (zA md2))), (qg, .inl (cI, 64, .inl (zA gd2))), (ql, .inl (cI, 64, .inl (zA (zU ln3 a (g ((((n / (lpp n)) * d) + ((lpp n) * a)) % n)))))), (he, .inl (cI, 64, .inl (zA g)))] := hD
      have hR := hR0.at hS
      refine lv_iinc (v := zI (a + 1)) (lv' := [(8, .int (zI (a + 1))), (0, .ref h0), (1, .ref h1), (2, .ref he), (3, .int (zI tn)), (4, .int (zI n)), (5, .int (zI (lpp n))), (6, .int (zI (n / (lpp n)))), (7, .int (zI d))]) hx hb dX4_byGoodAndThomas_76 hl (k := 8) rfl (zI_add _ _) (by decide) rfl (fun ls hl => ?_)
      have hl := lv_sub hl [1, 2, 3, 4, 5, 6, 7, 8, 0] rfl
      have hl : lv_has ls 9 [(0, .ref h0), (1, .ref h1), (2, .ref he), (3, .int (zI tn)), (4, .int (zI n)), (5, .int (zI (lpp n))), (6, .int (zI (n / (lpp n)))), (7, .int (zI d)), (8, .int (zI (a + 1)))] := hl
      refine lv_goto (tgt := 43) hx hb dX4_byGoodAndThomas_79 (by decide) ?_
      exact ih_43 (a + 1, zU ln3 a (g ((((n / (lpp n)) * d) + ((lpp n) * a)) % n))) _ _ _ ⟨(by omega), (by exact zU_fill hl3 rfl), hP, hD, hS, hl⟩ (by show ((n / lpp n) - (a + 1)).toNat < ((n / lpp n) - a).toNat; omega)

