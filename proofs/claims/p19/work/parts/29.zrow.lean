section ZR
section ROWS
variable {p : Program} {l : Launch} {e : Env} {R : Room} {s : State} {m : MethodId} {args : Array Value} {below : List Frame} {meth : Method} {c : Code} {H : Heap} {locs : List Loc} {cells slots : Nat} {Q : State → Prop}
variable {cc : ByteArray} {pc : Nat} {ls : Array Slot} {rest : List Value}
theorem z_tin (hx : p.tables.exec = Jvm.exec) (hb : c.code = cc) {dflt lo hi : Int} {offs : Array Int} {len : Nat} {x k : Int} {off : Int} {tgt : Nat} (hdg : decode cc pc = .ok (.tableswitch dflt lo hi offs, len)) (hk : x = k) (hr : -2147483648 ≤ k ∧ k ≤ 2147483647) (h1 : ¬ k < lo) (h2 : ¬ hi < k) (ho : offs[(k - lo).toNat]? = some off) (ht : (pc : Int) + off = (tgt : Int))
    (kk : W p l e R s m args below meth c H locs cells slots Q (F0 m tgt ls rest)) : W p l e R s m args below meth c H locs cells slots Q (F0 m pc ls (.int (zI x) :: rest)) := by
  subst hk
  have e := zI_t hr
  exact lv_tableIn hx hb hdg (by rw [e]; exact h1) (by rw [e]; exact h2) (by rw [e]; exact ho) ht kk
theorem z_tout (hx : p.tables.exec = Jvm.exec) (hb : c.code = cc) {dflt lo hi : Int} {offs : Array Int} {len : Nat} {x : Int} {tgt : Nat} (hdg : decode cc pc = .ok (.tableswitch dflt lo hi offs, len)) (hr : -2147483648 ≤ x ∧ x ≤ 2147483647) (h : x < lo ∨ hi < x) (ht : (pc : Int) + dflt = (tgt : Int))
    (kk : W p l e R s m args below meth c H locs cells slots Q (F0 m tgt ls rest)) : W p l e R s m args below meth c H locs cells slots Q (F0 m pc ls (.int (zI x) :: rest)) := by
  have e := zI_t hr
  exact lv_tableOut hx hb hdg (by rw [e]; exact h) ht kk
end ROWS
theorem rowAt_ext {g g' : Int → Int} {c : Int} (h : ∀ k, 0 ≤ k → k < c → g k = g' k) : rowAt g c = rowAt g' c := by
  funext k
  unfold rowAt
  split
  · rename_i q; exact h k q.1 q.2
  · rfl
theorem cyc_congr {p n : Int} {a a' b b' : Int → Int} {k : Int} (hn : 1 ≤ n) (ha : ∀ j, 0 ≤ j → j < n → a j = a' j) (hb : ∀ j, 0 ≤ j → j < n → b j = b' j) : cyc p n a b k = cyc p n a' b' k := by
  unfold cyc
  rw [zT_congr (fun j h1 h2 => by rw [ha j h1 h2, hb ((k - j + n) % n) (z_rem hn).1 (z_rem hn).2])]
theorem root_1 {p n : Int} {pw : Int → Int} (h : zPN p n) (hw : zPW p n pw) : pw (1 % n) = zRoot p n := by
  rw [pw_mod h hw (by decide)]
  have r := root_rng h
  unfold pwm
  rw [show (1 : Int).toNat = 1 from rfl, Int.pow_succ, Int.pow_zero, Int.one_mul]
  exact Int.emod_eq_of_lt (by omega) (by omega)
theorem zGn_3 {n : Int} (h64 : n ≤ 64) (h : wset n / 2 ^ (3 : Int).toNat % 2 = 1) : zGN n (zGn n) := by
  have h2 := (wset_8 n).mp h
  have e : zGn n = lpr n := by unfold zGn; exact if_pos h
  rw [e]
  exact gn_of (by omega) h64 h2.2.2
theorem wset_2 {n : Int} (h1 : 1 ≤ n) (h : wset n / 2 ^ (2 : Int).toNat % 2 = 1) : 2 ≤ n := by
  have h2 := (wset_4 n).mp h
  have h3 := lpp_rng (n := n) h1
  omega
end ZR
