section TB
def lfC : Nat → Nat → Nat → Nat
  | 0, _, n => max n 2
  | k + 1, d, n => if d * d ≤ n then (if n % d = 0 then d else lfC k (d + 1) n) else max n 2
theorem lfC_eq : ∀ (k d n : Nat), lfN k (d : Int) (n : Int) = ((lfC k d n : Nat) : Int)
  | 0, d, n => by
    show max (n : Int) 2 = ((max n 2 : Nat) : Int)
    omega
  | k + 1, d, n => by
    unfold lfN lfC
    have e1 : ((d : Int) * d ≤ n) ↔ d * d ≤ n := by rw [← Int.natCast_mul]; exact Int.ofNat_le
    have e2 : ((n : Int) % d = 0) ↔ n % d = 0 := by rw [← Int.natCast_emod]; omega
    simp only [e1, e2]
    split
    · split
      · rfl
      · exact lfC_eq k (d + 1) n
    · omega
def iprC (c p : Nat) : Nat → Nat → Bool
  | 0, _ => true
  | k + 1, r => if 1 < r then (decide (c ^ ((p - 1) / lfC 200 2 r) % p ≠ 1) && iprC c p k (r / lfC 200 2 r)) else true
theorem pwC (c e p : Nat) : pwm (c : Int) (e : Int) (p : Int) = ((c ^ e % p : Nat) : Int) := by
  unfold pwm
  rw [Int.toNat_natCast, ← Int.natCast_pow, ← Int.natCast_emod]
theorem iprC_eq (c p : Nat) (hp : 1 ≤ p) : ∀ (k r : Nat), iprB (c : Int) (p : Int) k (r : Int) = iprC c p k r
  | 0, r => rfl
  | k + 1, r => by
    unfold iprB iprC
    have e0 : lfac (r : Int) = ((lfC 200 2 r : Nat) : Int) := lfC_eq 200 2 r
    have e1 : ((p : Int) - 1) / lfac (r : Int) = (((p - 1) / lfC 200 2 r : Nat) : Int) := by rw [e0, Int.natCast_ediv]; congr 1; omega
    have e2 : (r : Int) / lfac (r : Int) = ((r / lfC 200 2 r : Nat) : Int) := by rw [e0, Int.natCast_ediv]
    rw [e1, e2, pwC, iprC_eq c p hp k]
    have e3 : ((1 : Int) < r) ↔ 1 < r := by omega
    have e4 : (((c ^ ((p - 1) / lfC 200 2 r) % p : Nat) : Int) ≠ 1) ↔ c ^ ((p - 1) / lfC 200 2 r) % p ≠ 1 := by omega
    simp only [e3, e4]
def chkP (p : Nat) : Bool := if lfC 200 2 p = p then (List.range 40).any (fun c => decide (1 ≤ c) && (decide (c < p) && (decide (c ^ (p - 1) % p = 1) && iprC c p 14 (p - 1)))) else true
set_option maxRecDepth 1000000 in
theorem chk_0 : (List.range 1000).all (fun i => chkP (i + 3)) = true := by decide +kernel
set_option maxRecDepth 1000000 in
theorem chk_1 : (List.range 1000).all (fun i => chkP (i + 1003)) = true := by decide +kernel
set_option maxRecDepth 1000000 in
theorem chk_2 : (List.range 1000).all (fun i => chkP (i + 2003)) = true := by decide +kernel
set_option maxRecDepth 1000000 in
theorem chk_3 : (List.range 1000).all (fun i => chkP (i + 3003)) = true := by decide +kernel
set_option maxRecDepth 1000000 in
theorem chk_4 : (List.range 1000).all (fun i => chkP (i + 4003)) = true := by decide +kernel
set_option maxRecDepth 1000000 in
theorem chk_5 : (List.range 1000).all (fun i => chkP (i + 5003)) = true := by decide +kernel
set_option maxRecDepth 1000000 in
theorem chk_6 : (List.range 1000).all (fun i => chkP (i + 6003)) = true := by decide +kernel
set_option maxRecDepth 1000000 in
theorem chk_7 : (List.range 1000).all (fun i => chkP (i + 7003)) = true := by decide +kernel
set_option maxRecDepth 1000000 in
theorem chk_8 : (List.range 1000).all (fun i => chkP (i + 8003)) = true := by decide +kernel
set_option maxRecDepth 1000000 in
theorem chk_9 : (List.range 1000).all (fun i => chkP (i + 9003)) = true := by decide +kernel
end TB
