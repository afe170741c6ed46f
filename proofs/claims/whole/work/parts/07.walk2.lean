/-! arrays, new cells, calls, ends -/
abbrev gI (D : va_G) (n : Nat) (f : Nat → Int) : va_E := .inl (D.1 100, n, .inl (fun j => iZ (f j)))
abbrev gL (D : va_G) (n : Nat) (f : Nat → Int) : va_E := .inl (D.1 101, n, .inr (.inl (fun j => lZ (f j))))
abbrev gO (D : va_G) (n : Nat) (f : Nat → Option Nat) : va_E := .inl (D.1 102, n, .inr (.inr (.inr (.inr f))))
section GR2
variable {D : va_G} {s0 : State} {p : Program} {l : Launch} {e : Env} {R : Room} {s : State} {m : MethodId} {args : Array Value} {below : List Frame} {meth : Method} {c : Code} {h : gH} {k n : Nat} {Q : State → Prop}
variable {own : String} {cc : ByteArray} {nL : Nat} {ret : Option FieldType} {pc : Nat} {ls : Array Slot} {rest : List Value} {a : Nat}
theorem g_ild (X : gX D s0 own cc nL ret p s m meth c) {t : Nat × Nat} {N : Nat} {f : Nat → Int} (ha : h a = some (t, gI D N f)) {i : Int} (j : Nat) (hi : i = (j : Int)) (hj : j < N) (hN : N < 2147483648) (hdg : decode cc pc = .ok (.iaload, 1))
    (kk : G D s0 p l e R s m args below meth c h k n Q (F0 m (pc + 1) ls (.int (iZ (f j)) :: rest))) : G D s0 p l e R s m args below meth c h k n Q (F0 m pc ls (.int (iZ i) :: .ref a :: rest)) := by
  intro H locs cells slots hM hl h1 h2
  refine va_iald X.1 X.2.1 X.K (g_P hM ha) 0 0 rfl rfl (iZ_in hi hj hN) hdg ?_
  rw [iZ_n hi (by omega)]
  exact kk H locs cells slots hM hl h1 h2
theorem g_lld (X : gX D s0 own cc nL ret p s m meth c) {t : Nat × Nat} {N : Nat} {f : Nat → Int} (ha : h a = some (t, gL D N f)) {i : Int} (j : Nat) (hi : i = (j : Int)) (hj : j < N) (hN : N < 2147483648) (hdg : decode cc pc = .ok (.laload, 1))
    (kk : G D s0 p l e R s m args below meth c h k n Q (F0 m (pc + 1) ls (.long (lZ (f j)) :: rest))) : G D s0 p l e R s m args below meth c h k n Q (F0 m pc ls (.int (iZ i) :: .ref a :: rest)) := by
  intro H locs cells slots hM hl h1 h2
  refine va_lald X.1 X.2.1 X.K (g_P hM ha) 0 1 rfl rfl (iZ_in hi hj hN) hdg ?_
  rw [iZ_n hi (by omega)]
  exact kk H locs cells slots hM hl h1 h2
theorem g_ald (X : gX D s0 own cc nL ret p s m meth c) {t : Nat × Nat} {N : Nat} {f : Nat → Option Nat} (ha : h a = some (t, gO D N f)) {i : Int} (j : Nat) (hi : i = (j : Int)) (hj : j < N) (hN : N < 2147483648) (hdg : decode cc pc = .ok (.aaload, 1))
    (kk : G D s0 p l e R s m args below meth c h k n Q (F0 m (pc + 1) ls (va_rf (f j) :: rest))) : G D s0 p l e R s m args below meth c h k n Q (F0 m pc ls (.int (iZ i) :: .ref a :: rest)) := by
  intro H locs cells slots hM hl h1 h2
  refine va_aldq (C := "java/lang/Object") X.1 X.2.1 X.K (g_P hM ha) 0 2 rfl rfl (iZ_in hi hj hN) hdg ?_
  rw [iZ_n hi (by omega)]
  exact kk H locs cells slots hM hl h1 h2
theorem g_aleni (X : gX D s0 own cc nL ret p s m meth c) {t : Nat × Nat} {N : Nat} {f : Nat → Int} (ha : h a = some (t, gI D N f)) (hdg : decode cc pc = .ok (.arraylength, 1))
    (kk : G D s0 p l e R s m args below meth c h k n Q (F0 m (pc + 1) ls (.int (iZ N) :: rest))) : G D s0 p l e R s m args below meth c h k n Q (F0 m pc ls (.ref a :: rest)) :=
  fun H locs cells slots hM hl h1 h2 => va_alen X.1 X.2.1 X.K (g_P hM ha) 0 0 rfl (ty := .int) rfl (iZ_nat N) hdg (kk H locs cells slots hM hl h1 h2)
theorem g_aleno (X : gX D s0 own cc nL ret p s m meth c) {t : Nat × Nat} {N : Nat} {f : Nat → Option Nat} (ha : h a = some (t, gO D N f)) (hdg : decode cc pc = .ok (.arraylength, 1))
    (kk : G D s0 p l e R s m args below meth c h k n Q (F0 m (pc + 1) ls (.int (iZ N) :: rest))) : G D s0 p l e R s m args below meth c h k n Q (F0 m pc ls (.ref a :: rest)) :=
  fun H locs cells slots hM hl h1 h2 => va_alen X.1 X.2.1 X.K (g_P hM ha) 0 2 rfl (ty := .object "java/lang/Object") rfl (iZ_nat N) hdg (kk H locs cells slots hM hl h1 h2)
theorem g_ist (X : gX D s0 own cc nL ret p s m meth c) {t : Nat × Nat} {N : Nat} {f : Nat → Int} (ha : h a = some (t, gI D N f)) (ht : t.1 ≠ 0) {i x : Int} (j : Nat) (hi : i = (j : Int)) (hj : j < N) (hN : N < 2147483648) (hdg : decode cc pc = .ok (.iastore, 1))
    (kk : G D s0 p l e R s m args below meth c (g_up h a (t, gI D N (va_up f j x))) k n Q (F0 m (pc + 1) ls rest)) : G D s0 p l e R s m args below meth c h k n Q (F0 m pc ls (.int (iZ x) :: .int (iZ i) :: .ref a :: rest)) := by
  intro H locs cells slots hM hl h1 h2
  have hc1 := (hM.1 a _ ha).1
  refine W.iast X.1 X.2.1 hc1 ((X.K.2 0 _ rfl).1 N (fun j => .int (iZ (f j)))) (fun q => by cases q) (by show ¬ (_ ∨ (arrV _ _ _).slots.size ≤ _); rw [arrV_size]; exact iZ_in hi hj hN) rfl rfl hdg fun H1 e1 z oq => ?_
  refine kk H1 _ cells slots (hM.set ha ht ?_ z oq) (g_lc hl ((hM.1 a _ ha).2 ht)) h1 h2
  show H1[a]? = some (vp_cell _ _)
  rw [e1, vp_cell_i, vp_cell_i, arrV_store, iZ_n hi (by omega)]
  congr 2
  funext q
  by_cases hq : q = j
  · subst hq
    simp [updV, va_up]
  · simp [updV, va_up, hq]
theorem g_lst (X : gX D s0 own cc nL ret p s m meth c) {t : Nat × Nat} {N : Nat} {f : Nat → Int} (ha : h a = some (t, gL D N f)) (ht : t.1 ≠ 0) {i x : Int} (j : Nat) (hi : i = (j : Int)) (hj : j < N) (hN : N < 2147483648) (hdg : decode cc pc = .ok (.lastore, 1))
    (kk : G D s0 p l e R s m args below meth c (g_up h a (t, gL D N (va_up f j x))) k n Q (F0 m (pc + 1) ls rest)) : G D s0 p l e R s m args below meth c h k n Q (F0 m pc ls (.long (lZ x) :: .int (iZ i) :: .ref a :: rest)) := by
  intro H locs cells slots hM hl h1 h2
  have hc1 := (hM.1 a _ ha).1
  refine W.last X.1 X.2.1 hc1 ((X.K.2 1 _ rfl).1 N (fun j => .long (lZ (f j)))) (fun q => by cases q) (by show ¬ (_ ∨ (arrV _ _ _).slots.size ≤ _); rw [arrV_size]; exact iZ_in hi hj hN) rfl rfl hdg fun H1 e1 z oq => ?_
  refine kk H1 _ cells slots (hM.set ha ht ?_ z oq) (g_lc hl ((hM.1 a _ ha).2 ht)) h1 h2
  show H1[a]? = some (vp_cell _ _)
  rw [e1, vp_cell_l, vp_cell_l, arrV_store, iZ_n hi (by omega)]
  congr 2
  funext q
  by_cases hq : q = j
  · subst hq
    simp [updV, va_up]
  · simp [updV, va_up, hq]
/-- a null into an array of references -/
theorem g_astN (X : gX D s0 own cc nL ret p s m meth c) {t : Nat × Nat} {N : Nat} {f : Nat → Option Nat} (ha : h a = some (t, gO D N f)) (ht : t.1 ≠ 0) {i : Int} (j : Nat) (hi : i = (j : Int)) (hj : j < N) (hN : N < 2147483648) (hdg : decode cc pc = .ok (.aastore, 1))
    (kk : G D s0 p l e R s m args below meth c (g_up h a (t, gO D N (va_up f j none))) k n Q (F0 m (pc + 1) ls rest)) : G D s0 p l e R s m args below meth c h k n Q (F0 m pc ls (.null :: .int (iZ i) :: .ref a :: rest)) := by
  intro H locs cells slots hM hl h1 h2
  have hc1 := (hM.1 a _ ha).1
  refine va_WaastN (C := "java/lang/Object") X.1 X.2.1 hc1 ((X.K.2 2 _ rfl).1 N (fun j => va_rf (f j))) (fun q => by cases q) (by show ¬ (_ ∨ (arrV _ _ _).slots.size ≤ _); rw [arrV_size]; exact iZ_in hi hj hN) rfl rfl hdg fun H1 e1 z oq => ?_
  refine kk H1 _ cells slots (hM.set ha ht ?_ z oq) (g_lc hl ((hM.1 a _ ha).2 ht)) h1 h2
  show H1[a]? = some (vp_cell _ _)
  rw [e1, vp_cell_q, vp_cell_q, arrV_store, iZ_n hi (by omega)]
  congr 2
  funext q
  by_cases hq : q = j
  · subst hq
    simp [updV, va_up, va_rf]
  · simp [updV, va_up, hq]
/-- an object of ours into an array of references -/
theorem g_ast (X : gX D s0 own cc nL ret p s m meth c) {t : Nat × Nat} {N : Nat} {f : Nat → Option Nat} (ha : h a = some (t, gO D N f)) (ht : t.1 ≠ 0) {b ci : Nat} {tb : Nat × Nat} {fs : List Value} {q : vw_C} (hbb : h b = some (tb, .inr (ci, fs))) (hc : vwCl[ci]? = some q) (hcast : Cond.castable q.1 "java/lang/Object" ∈ lw_tbl) {i : Int} (j : Nat) (hi : i = (j : Int)) (hj : j < N) (hN : N < 2147483648) (hdg : decode cc pc = .ok (.aastore, 1))
    (kk : G D s0 p l e R s m args below meth c (g_up h a (t, gO D N (va_up f j (some b)))) k n Q (F0 m (pc + 1) ls rest)) : G D s0 p l e R s m args below meth c h k n Q (F0 m pc ls (.ref b :: .int (iZ i) :: .ref a :: rest)) := by
  intro H locs cells slots hM hl h1 h2
  have hc1 := (hM.1 a _ ha).1
  obtain ⟨cellV, g1, g3, g4⟩ := va_recv X.K (g_P hM hbb) hc (q0 := 0) rfl
  obtain ⟨kC, hkC, -⟩ := Vm.findClass_spec g4
  obtain ⟨c0, t0, f1, f2, f3⟩ := Cond.castable_spec (X.w (args := args) hcast rfl)
  obtain ⟨kA, comp, k1, k2, k3, -⟩ := (X.K.2 2 _ rfl).2
  obtain ⟨kE, hkE, -⟩ := Vm.findClass_spec k3
  cases g4.symm.trans f1
  cases k3.symm.trans f2
  have hin := iZ_in hi hj hN
  refine W.aast X.1 X.2.1 hc1 (fun q h => by cases h) (fun h => by cases h) k1 k2 rfl hkE ⟨fun q => hin (Or.inl q), by show _ < (arrV _ _ _).slots.size; rw [arrV_size]; exact Nat.not_le.mp fun q => hin (Or.inr q)⟩ g1 (fun q h => by rw [h] at g3; cases g3) hkC f3 rfl rfl hdg fun H1 e1 z oq => ?_
  refine kk H1 _ cells slots (hM.set ha ht ?_ z oq) (g_lc hl ((hM.1 a _ ha).2 ht)) h1 h2
  show H1[a]? = some (vp_cell _ _)
  rw [e1, vp_cell_q, vp_cell_q, arrV_store, iZ_n hi (by omega)]
  congr 2
  funext q
  by_cases hq : q = j
  · subst hq
    simp [updV, va_up, va_rf]
  · simp [updV, va_up, hq]
/-- a new object of ours, with the tag that we give it -/
theorem g_new (X : gX D s0 own cc nL ret p s m meth c) {C : String} {T : u_T} {N ci index : Nat} (hc : vwCl[ci]? = some (C, T, N)) (hcl : Cond.classLink own index C ∈ lw_tbl) (hinst : Cond.instantiable C N ∈ lw_tbl) (hini : Cond.initialized C ∈ lw_tbl) {fs : List Value} (hfs : ∀ j, j < N → defaultValue (g_ty ci j) = vp_V fs j) (tg : Nat → Nat × Nat)
    (hcells : k + 1 ≤ R.cells) (hslots : n + N ≤ R.slots) (hdg : decode cc pc = .ok (.new index, 3))
    (kk : ∀ a : Nat, h a = none → G D s0 p l e R s m args below meth c (g_up h a (tg a, .inr (ci, fs))) (k + 1) (n + N) Q (F0 m (pc + 3) ls (.ref a :: rest))) : G D s0 p l e R s m args below meth c h k n Q (F0 m pc ls rest) := by
  intro H locs cells slots hM hl h1 h2
  have hKn := X.K.1 ci _ hc
  refine W.newcK X.1 X.2.1 X.2.2.2.2.2.1 (X.w hcl rfl) (X.w hinst rfl) (X.w hini rfl) rfl hdg (by omega) (by omega) hKn.2.1 rfl fun H1 kC hkC e1 z1 o1 => ?_
  exact kk H.size (hM.fresh (Nat.le_refl _)) H1 locs (cells + 1) (slots + N) (hM.push ⟨_, hc, (u_born (g_ty ci) (X.lay (args := args) hc) (fun _ h => h) hKn hkC e1 (g_ty_ok ci _ hc)).to hfs⟩ z1 o1) hl (by omega) (by omega)
theorem g_newi (X : gX D s0 own cc nL ret p s m meth c) {i : Int} (N : Nat) (hi : i = (N : Int)) (hN : N ≤ 100000000) (tg : Nat → Nat × Nat) (hcells : k + 1 ≤ R.cells) (hslots : n + N ≤ R.slots) (hdg : decode cc pc = .ok (.newarray .int, 2))
    (kk : ∀ a : Nat, h a = none → G D s0 p l e R s m args below meth c (g_up h a (tg a, gI D N (fun _ => 0))) (k + 1) (n + N) Q (F0 m (pc + 2) ls (.ref a :: rest))) : G D s0 p l e R s m args below meth c h k n Q (F0 m pc ls (.int (iZ i) :: rest)) := by
  intro H locs cells slots hM hl h1 h2
  refine va_newaK X.1 X.2.1 (atype := .int) (X.w tw_217 rfl) rfl hdg rfl (by rw [hi]; exact iZ_nn (by omega) (by omega)) (iZ_n hi (by omega)) (by show N * 4 ≤ _; omega) (by omega) (by omega) rfl fun H1 cA e1 z1 o1 hAr hNm => ?_
  have hcA : cA = D.1 100 := Option.some.inj (hNm.symm.trans (X.K.2 0 _ rfl).2)
  subst hcA
  exact kk H.size (hM.fresh (Nat.le_refl _)) H1 locs (cells + 1) (slots + N) (hM.push (show H1[H.size]? = some (vp_cell _ _) by rw [vp_cell_i]; exact e1) z1 o1) hl (by omega) (by omega)
theorem g_newl (X : gX D s0 own cc nL ret p s m meth c) {i : Int} (N : Nat) (hi : i = (N : Int)) (hN : N ≤ 60000000) (tg : Nat → Nat × Nat) (hcells : k + 1 ≤ R.cells) (hslots : n + N ≤ R.slots) (hdg : decode cc pc = .ok (.newarray .long, 2))
    (kk : ∀ a : Nat, h a = none → G D s0 p l e R s m args below meth c (g_up h a (tg a, gL D N (fun _ => 0))) (k + 1) (n + N) Q (F0 m (pc + 2) ls (.ref a :: rest))) : G D s0 p l e R s m args below meth c h k n Q (F0 m pc ls (.int (iZ i) :: rest)) := by
  intro H locs cells slots hM hl h1 h2
  refine va_newaK X.1 X.2.1 (atype := .long) (X.w tw_218 rfl) rfl hdg rfl (by rw [hi]; exact iZ_nn (by omega) (by omega)) (iZ_n hi (by omega)) (by show N * 8 ≤ _; omega) (by omega) (by omega) rfl fun H1 cA e1 z1 o1 hAr hNm => ?_
  have hcA : cA = D.1 101 := Option.some.inj (hNm.symm.trans (X.K.2 1 _ rfl).2)
  subst hcA
  exact kk H.size (hM.fresh (Nat.le_refl _)) H1 locs (cells + 1) (slots + N) (hM.push (show H1[H.size]? = some (vp_cell _ _) by rw [vp_cell_l]; exact e1) z1 o1) hl (by omega) (by omega)
theorem g_newo (X : gX D s0 own cc nL ret p s m meth c) {index : Nat} (hcl : Cond.classLink own index "java/lang/Object" ∈ lw_tbl) {i : Int} (N : Nat) (hi : i = (N : Int)) (hN : N ≤ 100000000) (tg : Nat → Nat × Nat) (hcells : k + 1 ≤ R.cells) (hslots : n + N ≤ R.slots) (hdg : decode cc pc = .ok (.anewarray index, 3))
    (kk : ∀ a : Nat, h a = none → G D s0 p l e R s m args below meth c (g_up h a (tg a, gO D N (fun _ => none))) (k + 1) (n + N) Q (F0 m (pc + 3) ls (.ref a :: rest))) : G D s0 p l e R s m args below meth c h k n Q (F0 m pc ls (.int (iZ i) :: rest)) := by
  intro H locs cells slots hM hl h1 h2
  have hnn : (iZ i).toNatClampNeg = N := iZ_n hi (by omega)
  refine W.anew X.1 X.2.1 X.2.2.2.2.2.1 (X.w hcl rfl) (X.w tw_264 rfl) rfl hdg rfl (by rw [hi]; exact iZ_nn (by omega) (by omega)) (by rw [hnn]; omega) (by omega) (by rw [hnn]; omega) fun cA kA comp f1 f2 f3 f4 => ?_
  obtain ⟨kA', comp', k1, k2, k3, k4⟩ := (X.K.2 2 _ rfl).2
  have hcA : cA = D.1 102 := Option.some.inj (f1.symm.trans k4)
  subst hcA
  rw [hnn]
  generalize hH1 : H.push ({ cls := D.1 102, slots := Array.replicate N .null, vm := .none } : Cell) = H1
  have z1 : H1.size = H.size + 1 := by rw [← hH1, Array.size_push]
  have e1 : H1[H.size]? = some (arrV (D.1 102) N (fun _ => .null)) := by rw [← hH1, Array.getElem?_push_size, ← arrV_new]
  have o1 : ∀ q : Nat, q < H.size → H1[q]? = H[q]? := fun q hq => by rw [← hH1, Array.getElem?_push, if_neg (Nat.ne_of_lt hq)]
  exact kk H.size (hM.fresh (Nat.le_refl _)) H1 locs (cells + 1) (slots + N) (hM.push (show H1[H.size]? = some (vp_cell _ _) by rw [vp_cell_q]; exact e1) z1 o1) hl (by omega) (by omega)
end GR2
