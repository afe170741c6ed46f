theorem g_shr1 {D : va_G} {s0 : State} {p : Program} {l : Launch} {e : Env} {R : Room} {s : State} {m : MethodId} {args : Array Value} {below : List Frame} {meth : Method} {c : Code} {h : gH} {k n : Nat} {Q : State → Prop} {own : String} {cc : ByteArray} {nL : Nat} {ret : Option FieldType} {pc : Nat} {ls : Array Slot} {rest : List Value} (X : gX D s0 own cc nL ret p s m meth c) {i : Int} (j : Nat) (hi : i = (j : Int)) (hj : j < 2147483648) (hdg : decode cc pc = .ok (.ishr, 1))
    (kk : G D s0 p l e R s m args below meth c h k n Q (F0 m (pc + 1) ls (.int (iZ ((j / 2 : Nat) : Int)) :: rest))) : G D s0 p l e R s m args below meth c h k n Q (F0 m pc ls (.int (iZ 1) :: .int (iZ i) :: rest)) := by
  refine g_1 (fun w => lv_ishr X.1 X.2.1 hdg w) (g_ti ?_ kk)
  rw [hi, ← iZ_nat j, ← iZ_nat (j / 2)]
  exact pk_shrN (n := j) hj (iZ 1 &&& 31) 1 (by decide)
/-- A LIST of the JDK's: w says which; L: the objects' addresses -/
def isAL (D : va_G) (h : gH) (a w : Nat) (L : List Nat) : Prop := ∃ (e : Nat) (mc : Int), h a = some ((5, w), .inr (3, [.ref e, .int (iZ L.length), .int (iZ mc)])) ∧ ((e = D.1 200 ∧ L = []) ∨ ∃ (cap : Nat) (f : Nat → Option Nat), h e = some ((14, a), gO D cap f) ∧ 1 ≤ cap ∧ cap ≤ 1600 ∧ L.length ≤ cap ∧ ∀ j, j < L.length → f j = some (L.getD j 0))
/-- what a list's own methods may change -/
def P_AL (a : Nat) : Nat → Nat × Nat → Prop := fun q t => q = a ∨ t = (14, a)
theorem g_ob_new {h h1 : gH} {b a : Nat} {x : gE} (hb : g_ob h b) (e : h1 = g_up h a x) (ha : h a = none) : g_ob h1 b := by
  obtain ⟨t, ci, fs, q, z⟩ := hb
  exact ⟨t, ci, fs, by rw [e, g_un (g_nz q ha)]; exact q, z⟩
