section SU
/-- sums over 0 .. n-1 -/
def zS (f : Int → Int) : Nat → Int
  | 0 => 0
  | n + 1 => zS f n + f n
def zT (f : Int → Int) (n : Int) : Int := zS f n.toNat
theorem zT_0 (f : Int → Int) : zT f 0 = 0 := rfl
theorem zT_neg (f : Int → Int) {n : Int} (h : n ≤ 0) : zT f n = 0 := by
  unfold zT
  rw [show n.toNat = 0 by omega]
  rfl
theorem zT_s (f : Int → Int) {n : Int} (h : 0 ≤ n) : zT f (n + 1) = zT f n + f n := by
  unfold zT
  rw [show (n + 1).toNat = n.toNat + 1 by omega]
  show zS f n.toNat + f (n.toNat : Int) = _
  rw [Int.toNat_of_nonneg h]
theorem z_ind {P : Int → Prop} (h0 : P 0) (hs : ∀ n, 0 ≤ n → P n → P (n + 1)) : ∀ n, 0 ≤ n → P n := by
  intro n hn
  have key : ∀ k : Nat, P (k : Int) := by
    intro k
    induction k with
    | zero => exact h0
    | succ k ih => exact hs k (by omega) ih
  have h := key n.toNat
  rw [Int.toNat_of_nonneg hn] at h
  exact h
theorem zT_congr {f g : Int → Int} {n : Int} (h : ∀ j, 0 ≤ j → j < n → f j = g j) : zT f n = zT g n := by
  rcases Int.lt_or_le n 0 with q | q
  · rw [zT_neg f (by omega), zT_neg g (by omega)]
  · revert h
    refine z_ind (P := fun n => (∀ j, 0 ≤ j → j < n → f j = g j) → zT f n = zT g n) (fun _ => rfl) ?_ n q
    intro k hk ih h
    rw [zT_s f hk, zT_s g hk, ih (fun j h1 h2 => h j h1 (by omega)), h k hk (by omega)]
theorem zT_bound {f : Int → Int} {n B : Int} (hn : 0 ≤ n) (h : ∀ j, 0 ≤ j → j < n → 0 ≤ f j ∧ f j ≤ B) : 0 ≤ zT f n ∧ zT f n ≤ n * B := by
  revert h
  refine z_ind (P := fun n => (∀ j, 0 ≤ j → j < n → 0 ≤ f j ∧ f j ≤ B) → 0 ≤ zT f n ∧ zT f n ≤ n * B) (fun _ => by simp [zT_0]) ?_ n hn
  intro k hk ih h
  have h1 := ih (fun j a b => h j a (by omega))
  have h2 := h k hk (by omega)
  rw [zT_s f hk, Int.add_mul, Int.one_mul]
  omega
theorem zT_bound2 {f : Int → Int} {n B : Int} (hn : 0 ≤ n) (h : ∀ j, 0 ≤ j → j < n → -B ≤ f j ∧ f j ≤ B) : -(n * B) ≤ zT f n ∧ zT f n ≤ n * B := by
  revert h
  refine z_ind (P := fun n => (∀ j, 0 ≤ j → j < n → -B ≤ f j ∧ f j ≤ B) → -(n * B) ≤ zT f n ∧ zT f n ≤ n * B) (fun _ => by simp [zT_0]) ?_ n hn
  intro k hk ih h
  have h1 := ih (fun j a b => h j a (by omega))
  have h2 := h k hk (by omega)
  rw [zT_s f hk, Int.add_mul, Int.one_mul]
  omega
theorem zT_add (f g : Int → Int) (n : Int) : zT (fun j => f j + g j) n = zT f n + zT g n := by
  rcases Int.lt_or_le n 0 with q | q
  · rw [zT_neg _ (by omega), zT_neg _ (by omega), zT_neg _ (by omega)]; rfl
  · refine z_ind (P := fun n => zT (fun j => f j + g j) n = zT f n + zT g n) rfl ?_ n q
    intro k hk ih
    rw [zT_s _ hk, zT_s _ hk, zT_s _ hk, ih]
    omega
theorem zT_mul (c : Int) (f : Int → Int) (n : Int) : zT (fun j => c * f j) n = c * zT f n := by
  rcases Int.lt_or_le n 0 with q | q
  · rw [zT_neg _ (by omega), zT_neg _ (by omega), Int.mul_zero]
  · refine z_ind (P := fun n => zT (fun j => c * f j) n = c * zT f n) (by rw [zT_0, zT_0, Int.mul_zero]) ?_ n q
    intro k hk ih
    rw [zT_s _ hk, zT_s _ hk, ih, Int.mul_add]
theorem zT_mulr (c : Int) (f : Int → Int) (n : Int) : zT (fun j => f j * c) n = zT f n * c := by
  rw [Int.mul_comm, ← zT_mul]
  exact zT_congr (fun j _ _ => Int.mul_comm _ _)
theorem zT_zero {f : Int → Int} {n : Int} (h : ∀ j, 0 ≤ j → j < n → f j = 0) : zT f n = 0 := by
  rw [zT_congr (g := fun _ => 0 * 0) h, zT_mul 0 (fun _ => 0), Int.zero_mul]
theorem zT_mod {f g : Int → Int} {n p : Int} (h : ∀ j, 0 ≤ j → j < n → f j % p = g j % p) : zT f n % p = zT g n % p := by
  rcases Int.lt_or_le n 0 with q | q
  · rw [zT_neg _ (by omega), zT_neg _ (by omega)]
  · revert h
    refine z_ind (P := fun n => (∀ j, 0 ≤ j → j < n → f j % p = g j % p) → zT f n % p = zT g n % p) (fun _ => rfl) ?_ n q
    intro k hk ih h
    rw [zT_s _ hk, zT_s _ hk, Int.add_emod, ih (fun j a b => h j a (by omega)), h k hk (by omega), ← Int.add_emod]
/-- the sum over a and b, in either order -/
theorem zT_swap (f : Int → Int → Int) (n m : Int) : zT (fun i => zT (fun j => f i j) m) n = zT (fun j => zT (fun i => f i j) n) m := by
  rcases Int.lt_or_le n 0 with q | q
  · rw [zT_neg _ (by omega)]
    exact (zT_zero (fun j _ _ => zT_neg _ (by omega))).symm
  · refine z_ind (P := fun n => zT (fun i => zT (fun j => f i j) m) n = zT (fun j => zT (fun i => f i j) n) m) (by rw [zT_0]; exact (zT_zero (fun j _ _ => zT_0 _)).symm) ?_ n q
    intro k hk ih
    rw [zT_s _ hk, ih, ← zT_add]
    exact zT_congr (fun j _ _ => (zT_s _ hk).symm)
/-- one sum cut in two -/
theorem zT_app (f : Int → Int) {a b : Int} (ha : 0 ≤ a) (hb : 0 ≤ b) : zT f (a + b) = zT f a + zT (fun j => f (a + j)) b := by
  refine z_ind (P := fun b => zT f (a + b) = zT f a + zT (fun j => f (a + j)) b) (by rw [Int.add_zero, zT_0, Int.add_zero]) ?_ b hb
  intro k hk ih
  rw [← Int.add_assoc, zT_s _ (by omega), zT_s _ hk, ih, Int.add_assoc]
/-- the index i + a * j, i below a, j below b -/
theorem zT_grid (f : Int → Int) {a b : Int} (ha : 0 ≤ a) (hb : 0 ≤ b) : zT f (a * b) = zT (fun j => zT (fun i => f (i + a * j)) a) b := by
  refine z_ind (P := fun b => zT f (a * b) = zT (fun j => zT (fun i => f (i + a * j)) a) b) (by rw [Int.mul_zero, zT_0, zT_0]) ?_ b hb
  intro k hk ih
  rw [Int.mul_add, Int.mul_one, zT_app f (Int.mul_nonneg ha hk) ha, zT_s _ hk, ih]
  congr 1
  exact zT_congr (fun j _ _ => by rw [Int.add_comm])
theorem zT_grid2 (f : Int → Int) {a b : Int} (ha : 0 ≤ a) (hb : 0 ≤ b) : zT f (a * b) = zT (fun i => zT (fun j => f (i + a * j)) b) a := by
  rw [zT_grid f ha hb]
  exact zT_swap (fun j i => f (i + a * j)) b a
/-- all but one are nothing -/
theorem zT_one {f : Int → Int} {n i : Int} (h0 : 0 ≤ i) (h1 : i < n) (h : ∀ j, 0 ≤ j → j < n → j ≠ i → f j = 0) : zT f n = f i := by
  have e1 : n = i + (1 + (n - i - 1)) := by omega
  rw [e1, zT_app f h0 (by omega), zT_app _ (by omega) (by omega), zT_zero (fun j a b => h j a (by omega) (by omega)), zT_zero (f := fun j => f (i + (1 + j))) (fun j a b => h _ (by omega) (by omega) (by omega)), show (1 : Int) = 0 + 1 from rfl, zT_s _ (Int.le_refl 0), zT_0]
  simp
/-- the other way round -/
theorem zT_rev (f : Int → Int) {n : Int} (hn : 0 ≤ n) : zT f n = zT (fun j => f (n - 1 - j)) n := by
  revert f
  refine z_ind (P := fun n => ∀ f : Int → Int, zT f n = zT (fun j => f (n - 1 - j)) n) (fun f => rfl) ?_ n hn
  intro k hk ih f
  have h1 := zT_app (fun j => f (k + 1 - 1 - j)) (a := 1) (b := k) (by decide) hk
  have h2 : zT (fun j => f (k + 1 - 1 - j)) 1 = f k := by
    have h3 := zT_s (fun j => f (k + 1 - 1 - j)) (Int.le_refl 0)
    rw [zT_0, Int.zero_add, Int.zero_add] at h3
    rw [h3]
    congr 1
    omega
  have h4 : zT (fun j => f (k + 1 - 1 - (1 + j))) k = zT (fun j => f (k - 1 - j)) k := zT_congr (fun j _ _ => by congr 1; omega)
  rw [Int.add_comm 1 k] at h1
  rw [zT_s _ hk, h1, h2, h4, ← ih f, Int.add_comm]
/-- more terms that are nothing -/
theorem zT_ext {f : Int → Int} {n m : Int} (hn : 0 ≤ n) (hm : n ≤ m) (h : ∀ j, n ≤ j → j < m → f j = 0) : zT f m = zT f n := by
  rw [show m = n + (m - n) by omega, zT_app f hn (by omega), zT_zero (f := fun j => f (n + j)) (fun j a b => h _ (by omega) (by omega)), Int.add_zero]
/-- a row's entry, nothing behind its last one -/
def rowAt (g : Int → Int) (c k : Int) : Int := if 0 ≤ k ∧ k < c then g k else 0
theorem rowAt_in {g : Int → Int} {c k : Int} (h : 0 ≤ k ∧ k < c) : rowAt g c k = g k := if_pos h
theorem rowAt_out {g : Int → Int} {c k : Int} (h : ¬ (0 ≤ k ∧ k < c)) : rowAt g c k = 0 := if_neg h
/-- all entries have a property -/
def zAll (f : Int → Bool) : Nat → Bool
  | 0 => true
  | n + 1 => zAll f n && f n
theorem zAll_iff (f : Int → Bool) : ∀ n : Nat, zAll f n = true ↔ ∀ k : Int, 0 ≤ k → k < n → f k = true
  | 0 => ⟨fun _ k h1 h2 => by omega, fun _ => rfl⟩
  | n + 1 => by
    show (zAll f n && f n) = true ↔ _
    rw [Bool.and_eq_true, zAll_iff f n]
    constructor
    · intro h k h1 h2
      by_cases e : k = n
      · rw [e]; exact h.2
      · exact h.1 k h1 (by omega)
    · exact fun h => ⟨fun k h1 h2 => h k h1 (by omega), h n (by omega) (by omega)⟩
/-- filling a row -/
theorem zU_fill {g f : Int → Int} {i v : Int} (h : ∀ k, 0 ≤ k → k < i → g k = f k) (hv : v = f i) : ∀ k, 0 ≤ k → k < i + 1 → zU g i v k = f k := by
  intro k h1 h2
  by_cases e : k = i
  · subst e; rw [zU_s, hv]
  · rw [zU_n g v e]; exact h k h1 (by omega)
theorem zU_keep {g f : Int → Int} {i v : Int} (h : ∀ k, i ≤ k → g k = f k) : ∀ k, i + 1 ≤ k → zU g i v k = f k := by
  intro k h1
  rw [zU_n g v (by omega)]; exact h k (by omega)
end SU
