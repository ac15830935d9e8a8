section PV
/-- a row as a polynomial at a place -/
def zPy (g : Int → Int) (a n : Int) : Int := zT (fun k => g k * a ^ k.toNat) n
theorem pw_nat (a : Int) {i j : Int} (hi : 0 ≤ i) (hj : 0 ≤ j) : a ^ (i + j).toNat = a ^ i.toNat * a ^ j.toNat := by
  rw [show (i + j).toNat = i.toNat + j.toNat by omega, Int.pow_add]
theorem zPy_s (g : Int → Int) (a : Int) {n : Int} (hn : 0 ≤ n) : zPy g a (n + 1) = zPy g a n + g n * a ^ n.toNat := zT_s _ hn
theorem zPy_congr {g h : Int → Int} {a n : Int} (e : ∀ k, 0 ≤ k → k < n → g k = h k) : zPy g a n = zPy h a n := zT_congr (fun j h1 h2 => by rw [e j h1 h2])
/-- Horner's step -/
theorem zPy_h (g : Int → Int) (a : Int) {n : Int} (hn : 1 ≤ n) : zPy g a n = zPy (fun j => g (1 + j)) a (n - 1) * a + g 0 := by
  unfold zPy
  rw [zT_split1 _ hn, ← zT_mulr, Int.add_comm]
  congr 1
  · refine zT_congr (fun j h1 _ => ?_)
    show g (1 + j) * a ^ (1 + j).toNat = g (1 + j) * a ^ j.toNat * a
    rw [show (1 + j).toNat = j.toNat + 1 by omega, Int.pow_succ, Int.mul_assoc]
  · show g 0 * a ^ (0 : Int).toNat = g 0
    rw [show (0 : Int).toNat = 0 from rfl, Int.pow_zero, Int.mul_one]
theorem z_tm {x m : Int} (hm : 1 ≤ m) : -m < x.tmod m ∧ x.tmod m < m := by
  rcases Int.lt_or_le x 0 with h | h
  · have e : x.tmod m = -((-x).tmod m) := by rw [Int.neg_tmod, Int.neg_neg]
    rw [e, Int.tmod_eq_emod_of_nonneg (by omega)]
    have := z_rem (a := -x) (n := m) hm
    omega
  · rw [Int.tmod_eq_emod_of_nonneg h]
    have := z_rem (a := x) (n := m) hm
    omega
theorem z_tmm {x m : Int} (hm : 1 ≤ m) : (x.tmod m + m) % m = x % m := by
  have e := Int.tmod_add_mul_tdiv x m
  have e2 : x.tmod m + m = x + m * (1 - x.tdiv m) := by rw [Int.mul_sub]; omega
  rw [e2, Int.add_mul_emod_self_left]
/-- the values that Horner's loop goes through: entries from i on are in -/
def zHo (g : Int → Int) (a n m i : Int) : Int := zPy (fun j => g (i + j)) a (n - i) % m
theorem zHo_top {g : Int → Int} {a n m : Int} : zHo g a n m n = 0 := by
  unfold zHo
  rw [Int.sub_self]
  exact Int.zero_emod m
theorem zHo_step {g : Int → Int} {a n m i : Int} (hm : 1 ≤ m) (hi : i < n) : ((zHo g a n m (i + 1) * a + g i).tmod m + m) % m = zHo g a n m i := by
  rw [z_tmm hm]
  unfold zHo
  rw [zPy_h (fun j => g (i + j)) a (n := n - i) (by omega)]
  have e : zPy (fun j => g (i + (1 + j))) a (n - i - 1) = zPy (fun j => g (i + 1 + j)) a (n - (i + 1)) := by
    rw [show n - i - 1 = n - (i + 1) by omega]
    exact zPy_congr (fun k _ _ => by rw [← Int.add_assoc])
  rw [e, Int.add_zero]
  rw [Int.add_emod, Int.mul_emod, Int.emod_emod, ← Int.mul_emod, ← Int.add_emod]
theorem zHo_end {g : Int → Int} {a n m : Int} : zHo g a n m 0 = zPy g a n % m := by
  unfold zHo
  rw [Int.sub_zero]
  congr 1
  exact zPy_congr (fun k _ _ => by rw [Int.zero_add])
theorem zHo_rng {g : Int → Int} {a n m i : Int} (hm : 1 ≤ m) : 0 ≤ zHo g a n m i ∧ zHo g a n m i < m := z_rem hm
/-- the product of two rows, as polynomials -/
theorem zPy_lin {g h : Int → Int} {a c d N : Int} (hd : 0 ≤ d) (hN : c + d - 1 ≤ N) : zPy (lin g c h d) a N = zPy g a c * zPy h a d := by
  unfold zPy lin
  have e1 : zT (fun k => zT (fun j => rowAt g c j * rowAt h d (k - j)) c * a ^ k.toNat) N = zT (fun k => zT (fun j => rowAt g c j * rowAt h d (k - j) * a ^ k.toNat) c) N := zT_congr (fun k _ _ => (zT_mulr _ _ _).symm)
  rw [e1, zT_swap (fun k j => rowAt g c j * rowAt h d (k - j) * a ^ k.toNat), ← zT_mulr]
  refine zT_congr (fun j h1 h2 => ?_)
  have s1 : zT (fun k => rowAt g c j * rowAt h d (k - j) * a ^ k.toNat) N = zT (fun k => rowAt g c j * rowAt h d (k - j) * a ^ k.toNat) j + zT (fun t => rowAt g c j * rowAt h d (j + t - j) * a ^ (j + t).toNat) (N - j) := by
    have q := zT_app (fun k => rowAt g c j * rowAt h d (k - j) * a ^ k.toNat) (a := j) (b := N - j) h1 (by omega)
    rw [show j + (N - j) = N by omega] at q
    exact q
  have s2 : zT (fun k => rowAt g c j * rowAt h d (k - j) * a ^ k.toNat) j = 0 := zT_zero (fun k k0 k1 => by rw [rowAt_out (g := h) (by omega), Int.mul_zero, Int.zero_mul])
  have s3 : zT (fun t => rowAt g c j * rowAt h d (j + t - j) * a ^ (j + t).toNat) (N - j) = zT (fun t => rowAt g c j * rowAt h d (j + t - j) * a ^ (j + t).toNat) d := zT_ext hd (by omega) (fun t t0 t1 => by rw [rowAt_out (g := h) (by omega), Int.mul_zero, Int.zero_mul])
  rw [s1, s2, s3, Int.zero_add, ← zT_mul]
  refine zT_congr (fun t t0 t1 => ?_)
  rw [show j + t - j = t by omega, rowAt_in ⟨t0, t1⟩, rowAt_in ⟨h1, h2⟩, pw_nat a h1 t0]
  grind
theorem zPy_row {g : Int → Int} {a c : Int} : zPy (rowAt g c) a c = zPy g a c := zPy_congr (fun k h1 h2 => rowAt_in ⟨h1, h2⟩)
/-- the filtered row at a place -/
theorem val_fil {g h : Int → Int} {a c d m : Int} (hd : 0 ≤ d) : zPy (rowAt (lin g c h d) (c + d - 1)) a (c + d - 1) % m = zPy g a c % m * (zPy h a d % m) % m := by
  rw [zPy_row, zPy_lin hd (Int.le_refl _), Int.mul_emod]
/-- digits and carries -/
theorem dg_sum {L : Int → Int} : ∀ n, 0 ≤ n → zPy (dgI L) 10 n + cyI L n * 10 ^ n.toNat = zPy L 10 n := by
  refine z_ind ?_ ?_
  · show (0 : Int) + 0 * _ = 0
    rw [Int.zero_mul]
    rfl
  · intro n hn ih
    have q : dgI L n + 10 * cyI L (n + 1) = cyI L n + L n := by
      rw [cyI_s hn]
      unfold dgI
      omega
    rw [zPy_s _ _ hn, zPy_s _ _ hn, ← ih, show (n + 1).toNat = n.toNat + 1 by omega, Int.pow_succ]
    generalize (10 : Int) ^ n.toNat = T
    have q2 : (dgI L n + 10 * cyI L (n + 1)) * T = (cyI L n + L n) * T := by rw [q]
    rw [Int.add_mul, Int.add_mul] at q2
    have q3 : cyI L (n + 1) * (T * 10) = 10 * cyI L (n + 1) * T := by
      rw [← Int.mul_assoc, Int.mul_comm _ 10, ← Int.mul_assoc]
    omega
theorem zPy_nn {g : Int → Int} {a : Int} (ha : 0 ≤ a) (h : ∀ k, 0 ≤ k → 0 ≤ g k) : ∀ n, 0 ≤ n → 0 ≤ zPy g a n := by
  refine z_ind (Int.le_refl _) ?_
  intro n hn ih
  rw [zPy_s _ _ hn]
  have q1 := Int.mul_nonneg (h n hn) (show 0 ≤ a ^ n.toNat from Int.pow_nonneg ha)
  omega
theorem zPy_top {g : Int → Int} {c : Int} (h : ∀ k, 0 ≤ g k ∧ g k ≤ 9) : ∀ n, 0 ≤ n → zPy g 10 n < 10 ^ n.toNat := by
  refine z_ind (show (0 : Int) < 10 ^ (0 : Int).toNat by decide) ?_
  intro n hn ih
  rw [zPy_s _ _ hn, show (n + 1).toNat = n.toNat + 1 by omega, Int.pow_succ]
  have q : (0 : Int) < 10 ^ n.toNat := Int.pow_pos (by decide)
  generalize (10 : Int) ^ n.toNat = T at ih q ⊢
  have q1 : g n * T ≤ 9 * T := Int.mul_le_mul_of_nonneg_right (h n).2 (by omega)
  omega
theorem cy_top {L : Int → Int} {M n : Int} (hn : 0 ≤ n) (hL : ∀ k, 0 ≤ k → 0 ≤ L k ∧ L k ≤ M) (hb : zPy L 10 n < 10 ^ n.toNat) : cyI L n = 0 := by
  have q1 := dg_sum (L := L) n hn
  have q2 := zPy_nn (g := dgI L) (a := 10) (by decide) (fun k hk => (z_rem (n := 10) (by decide)).1) n hn
  have q3 := cyI_rng hL n hn
  rcases Int.lt_or_le 0 (cyI L n) with q | q
  · have q5 : (0 : Int) < 10 ^ n.toNat := Int.pow_pos (by decide)
    generalize (10 : Int) ^ n.toNat = T at q1 hb q5
    have q4 : 1 * T ≤ cyI L n * T := Int.mul_le_mul_of_nonneg_right (by omega) (by omega)
    omega
  · omega
theorem nd_zero {L : Int → Int} : ∀ n, 0 ≤ n → ∀ k, ndI L n ≤ k → k < n → dgI L k = 0 := by
  refine z_ind (fun k h1 h2 => ?_) ?_
  · have : ndI L 0 = 1 := rfl
    omega
  · intro n hn ih k h1 h2
    rw [ndI_s hn] at h1
    split at h1
    · omega
    · rename_i q
      by_cases e : k = n
      · subst e
        exact Classical.byContradiction q
      · exact ih k h1 (by omega)
theorem nd_last {L : Int → Int} : ∀ n, 0 ≤ n → ndI L n = 1 ∨ dgI L (ndI L n - 1) ≠ 0 := by
  refine z_ind (Or.inl rfl) ?_
  intro n hn ih
  rw [ndI_s hn]
  split
  · rename_i q
    right
    rw [show n + 1 - 1 = n by omega]
    exact q
  · exact ih
/-- the product's digits, as a number -/
theorem val_mul {g h : Int → Int} {c d : Int} (hc : 1 ≤ c ∧ c ≤ 64) (hd : 1 ≤ d) (hg : ∀ k, 0 ≤ g k ∧ g k ≤ 9) (hh : ∀ k, 0 ≤ h k ∧ h k ≤ 9) : zPy (rowAt (dgI (lin g c h d)) (ndI (lin g c h d) (c + d))) 10 (ndI (lin g c h d) (c + d)) = zPy g 10 c * zPy h 10 d := by
  have hL : ∀ k, 0 ≤ k → 0 ≤ lin g c h d k ∧ lin g c h d k ≤ 5184 := fun k _ => lin_nn ⟨by omega, hc.2⟩ (fun j _ _ => hg j) (fun j _ _ => hh j)
  have hp : zPy (lin g c h d) 10 (c + d) = zPy g 10 c * zPy h 10 d := zPy_lin (by omega) (by omega)
  have a1 := zPy_top (c := c) hg c (by omega)
  have a2 := zPy_nn (g := g) (a := 10) (by decide) (fun k _ => (hg k).1) c (by omega)
  have b1 := zPy_top (c := d) hh d (by omega)
  have b2 := zPy_nn (g := h) (a := 10) (by decide) (fun k _ => (hh k).1) d (by omega)
  have hb : zPy (lin g c h d) 10 (c + d) < 10 ^ (c + d).toNat := by
    rw [hp, pw_nat 10 (by omega) (by omega)]
    have q5 : (0 : Int) < 10 ^ d.toNat := Int.pow_pos (by decide)
    have q1 : zPy g 10 c * zPy h 10 d ≤ zPy g 10 c * 10 ^ d.toNat := Int.mul_le_mul_of_nonneg_left (by omega) a2
    have q2 : zPy g 10 c * 10 ^ d.toNat < 10 ^ c.toNat * 10 ^ d.toNat := Int.mul_lt_mul_of_pos_right a1 q5
    exact Int.lt_of_le_of_lt q1 q2
  have hcy := cy_top (by omega) hL hb
  have hs := dg_sum (L := lin g c h d) (c + d) (by omega)
  rw [hcy, Int.zero_mul, Int.add_zero, hp] at hs
  rw [zPy_row, ← hs]
  have hn := ndI_rng (L := lin g c h d) (c + d) (by omega)
  exact (zT_ext (by omega) hn.2 (fun j h1 h2 => by rw [nd_zero (c + d) (by omega) j h1 h2, Int.zero_mul])).symm
theorem lin_out {g h : Int → Int} {c d k : Int} (hk : c + d - 1 ≤ k) : lin g c h d k = 0 :=
  zT_zero (fun j _ _ => by rw [rowAt_out (g := h) (by omega), Int.mul_zero])
theorem lin_com {g h : Int → Int} {c d : Int} (hc : 0 ≤ c) (hd : 0 ≤ d) : lin g c h d = lin h d g c := by
  funext k
  rcases Int.lt_or_le k 0 with q | q
  · have e : ∀ (a b : Int → Int) (x y : Int), lin a x b y k = 0 := fun a b x y => zT_zero (fun j _ _ => by rw [rowAt_out (g := b) (by omega), Int.mul_zero])
    rw [e, e]
  · exact lin_comm hc hd q
theorem zU_0 {g : Int → Int} {k : Int} (h : g k = 0) : zU g k 0 = g := by
  funext j
  by_cases e : j = k
  · subst e; rw [zU_s, h]
  · rw [zU_n _ _ e]
/-- a convolution that goes round nowhere -/
theorem cyc_lin {p n : Int} {g h : Int → Int} {c d k : Int} (hc : 0 ≤ c) (hcn : c ≤ n) (hd : 0 ≤ d) (hn : c + d - 1 ≤ n) (hk : 0 ≤ k ∧ k < n) (hg : ∀ j, ¬ (0 ≤ j ∧ j < c) → g j = 0) (hh : ∀ j, ¬ (0 ≤ j ∧ j < d) → h j = 0) : cyc p n (fun j => g j % p) (fun j => h j % p) k = lin g c h d k % p := by
  rw [← cyc_if hk, ← lin_wide hc hcn]
  refine zT_mod (fun j j0 j1 => ?_)
  rw [← Int.mul_emod]
  congr 1
  by_cases q : j < c
  · rw [rowAt_in ⟨j0, q⟩]
    congr 1
    split
    · by_cases q2 : k - j < d
      · rw [rowAt_in ⟨by omega, q2⟩]
      · rw [rowAt_out (by omega)]
        exact hh _ (by omega)
    · rw [rowAt_out (by omega)]
      exact hh _ (by omega)
  · rw [hg j (by omega), rowAt_out (g := g) (by omega), Int.zero_mul, Int.zero_mul]
/-- going through a transform twice turns a row round -/
theorem dft2 {p n t : Int} {pw : Int → Int} (hC : zCH p n pw) (hpr : zPr p) (hne : ∀ d, d % n ≠ 0 → pw (d % n) ≠ 1) (ht : ∀ d, t * d % n = 0 ↔ d % n = 0) (x : Int → Int) {k : Int} (hk : 0 ≤ k ∧ k < n) : dft p n pw n t (fun j => dft p n pw n t x j) k = x ((n - k) % n) * n % p := by
  have hn := hC.1
  have s1 : dft p n pw n t (fun j => dft p n pw n t x j) k = zT (fun j => zT (fun i => x i * pw (j * (t * (i + k)) % n)) n) n % p := by
    unfold dft
    refine zT_mod (fun j _ _ => ?_)
    rw [z_mm (Int.emod_emod _ _) rfl, ← zT_mulr]
    refine zT_mod (fun i _ _ => ?_)
    rw [Int.mul_assoc]
    refine z_mm rfl ?_
    rw [ch_mul hC, show t * i * j + t * j * k = j * (t * (i + k)) by grind]
  have hik : ∀ i, 0 ≤ i → i < n → ((i + k) % n = 0 ↔ i = (n - k) % n) := by
    intro i i0 i1
    by_cases k0 : k = 0
    · subst k0
      rw [Int.add_zero, Int.sub_zero, Int.emod_self, Int.emod_eq_of_lt i0 i1]
    · rw [Int.emod_eq_of_lt (a := n - k) (by omega) (by omega)]
      rcases Int.lt_or_le (i + k) n with q | q
      · rw [Int.emod_eq_of_lt (by omega) q]
        omega
      · rw [show i + k = (i + k - n) + n * 1 by omega, Int.add_mul_emod_self_left, Int.emod_eq_of_lt (by omega) (by omega)]
        omega
  have r := z_rem (a := n - k) hn
  rw [s1, zT_swap (fun j i => x i * pw (j * (t * (i + k)) % n))]
  have s2 : zT (fun i => zT (fun j => x i * pw (j * (t * (i + k)) % n)) n) n % p = zT (fun i => if i = (n - k) % n then x i * n else 0) n % p := by
    refine zT_mod (fun i i0 i1 => ?_)
    rw [zT_mul]
    by_cases e : i = (n - k) % n
    · rw [if_pos e, orth0 hC ((ht _).mpr ((hik i i0 i1).mpr e))]
    · rw [if_neg e]
      have hd : t * (i + k) % n ≠ 0 := fun z => e ((hik i i0 i1).mp ((ht _).mp z))
      rw [z_mm rfl (show zT (fun j => pw (j * (t * (i + k)) % n)) n % p = 0 % p by rw [orth hC hpr (hne _ hd), Int.zero_emod]), Int.mul_zero]
  rw [s2, zT_one (i := (n - k) % n) r.1 r.2 (fun j _ _ hj => if_neg hj), if_pos rfl]
theorem turn_b {n : Int} (d : Int) : (n - 1) * d % n = 0 ↔ d % n = 0 := by
  constructor
  · intro h
    have h2 : n ∣ n * d - (n - 1) * d := Int.dvd_sub (Int.dvd_mul_right n d) (Int.dvd_of_emod_eq_zero h)
    rw [show n * d - (n - 1) * d = d by grind] at h2
    exact Int.emod_eq_zero_of_dvd h2
  · intro h
    exact Int.emod_eq_zero_of_dvd (Int.dvd_trans (Int.dvd_of_emod_eq_zero h) (Int.dvd_mul_left (n - 1) d))
def zF1 (p n : Int) (X : Int → Int) : Int → Int := rowAt (fun k => dft p n (yPw p n) n 1 (fun j => X j % p) k) n
def zB1 (p n : Int) (X : Int → Int) : Int → Int := rowAt (fun k => dft p n (yPw p n) n (n - 1) (fun j => X j % p) k * zInv p n % p) n
theorem zF2 {p n : Int} (h : zPN p n) (X : Int → Int) {k : Int} (hk : 0 ≤ k ∧ k < n) : zF1 p n (zF1 p n X) k = X ((n - k) % n) % p * n % p := by
  have e := dft2 (t := 1) (ch_of h (yPw_ok p n)) (zPP_pr h.1) (fun d hd => ch_ne h (yPw_ok p n) hd) (fun d => by rw [Int.one_mul]) (fun j => X j % p) hk
  rw [← e]
  show rowAt _ n k = _
  rw [rowAt_in hk]
  refine dft_congr (fun j h1 h2 => ?_)
  show rowAt _ n j % p = _
  rw [rowAt_in ⟨h1, h2⟩]
  exact dft_mod
theorem dft_lin {p n sz t v : Int} {pw g : Int → Int} {k : Int} : dft p n pw sz t (fun j => g j * v % p) k = dft p n pw sz t g k * v % p := by
  unfold dft
  rw [z_mm (Int.emod_emod _ _) rfl, ← zT_mulr]
  refine zT_mod (fun j _ _ => ?_)
  rw [z_mm (Int.emod_emod _ _) rfl]
  congr 1
  grind
theorem zB2 {p n : Int} (h : zPN p n) (Z : Int → Int) : dft p n (yPw p n) n (n - 1) (fun j => zB1 p n Z j % p) 0 * zInv p n % p = Z 0 * zInv p n % p := by
  have hn := h.2.2.1
  have e1 : dft p n (yPw p n) n (n - 1) (fun j => zB1 p n Z j % p) 0 = dft p n (yPw p n) n (n - 1) (fun j => dft p n (yPw p n) n (n - 1) (fun i => Z i % p) j * zInv p n % p) 0 := by
    refine dft_congr (fun j h1 h2 => ?_)
    show rowAt _ n j % p = _
    rw [rowAt_in ⟨h1, h2⟩]
    exact Int.emod_emod _ _
  have e2 := dft2 (t := n - 1) (ch_of h (yPw_ok p n)) (zPP_pr h.1) (fun d hd => ch_ne h (yPw_ok p n) hd) turn_b (fun j => Z j % p) (k := 0) ⟨Int.le_refl _, by omega⟩
  rw [e1, dft_lin, e2, Int.sub_zero, Int.emod_self]
  have hi := inv_of h
  have e3 : Z 0 % p * n % p * zInv p n % p = Z 0 % p := by
    rw [z_mm (Int.emod_emod _ _) rfl, Int.mul_assoc, z_mm (Int.emod_emod _ _) (show n * zInv p n % p = 1 % p by rw [hi, Int.emod_eq_of_lt (by decide) (by have := h.1.1; omega)]), Int.mul_one]
  rw [e3, z_mm (Int.emod_emod _ _) rfl]
/-- two transforms forward, two back -/
theorem turn_end {p n : Int} (h : zPN p n) (X : Int → Int) : dft p n (yPw p n) n (n - 1) (fun j => zB1 p n (zF1 p n (zF1 p n X)) j % p) 0 * zInv p n % p = X 0 % p := by
  have hn := h.2.2.1
  rw [zB2 h, zF2 h X ⟨Int.le_refl _, by omega⟩, Int.sub_zero, Int.emod_self, z_mm (Int.emod_emod _ _) rfl, Int.mul_assoc, z_mm (Int.emod_emod _ _) (show n * zInv p n % p = 1 % p by rw [inv_of h, Int.emod_eq_of_lt (by decide) (by have := h.1.1; omega)]), Int.mul_one]
theorem zF1_nn {p n : Int} (h : zPN p n) (X : Int → Int) (k : Int) : 0 ≤ zF1 p n X k ∧ zF1 p n X k < p := by
  have hp := h.1.1
  unfold zF1 rowAt
  split
  · exact z_rem (by omega)
  · omega
theorem zB1_nn {p n : Int} (h : zPN p n) (X : Int → Int) (k : Int) : 0 ≤ zB1 p n X k ∧ zB1 p n X k < p := by
  have hp := h.1.1
  unfold zB1 rowAt
  split
  · exact z_rem (by omega)
  · omega
set_option maxRecDepth 20000 in
theorem pn_all : zPN 61 60 ∧ zPN 7681 64 ∧ zPN 367 61 ∧ zPN 9973 36 := by unfold zPN zPP; decide +kernel
set_option maxRecDepth 20000 in
theorem ws_all : wset 60 = 23 ∧ wset 64 = 19 ∧ wset 61 = 27 ∧ wset 36 = 23 := by decide +kernel
end PV
