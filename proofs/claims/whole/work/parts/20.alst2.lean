theorem g_astO {D : va_G} {s0 : State} {p : Program} {l : Launch} {e : Env} {R : Room} {s : State} {m : MethodId} {args : Array Value} {below : List Frame} {meth : Method} {c : Code} {h : gH} {k n : Nat} {Q : State → Prop} {own : String} {cc : ByteArray} {nL : Nat} {ret : Option FieldType} {pc : Nat} {ls : Array Slot} {rest : List Value} {a : Nat} (X : gX D s0 own cc nL ret p s m meth c) {t : Nat × Nat} {N : Nat} {f : Nat → Option Nat} (ha : h a = some (t, gO D N f)) (ht : t.1 ≠ 0) {b : Nat} (hob : g_ob h b) {i : Int} (j : Nat) (hi : i = (j : Int)) (hj : j < N) (hN : N < 2147483648) (hdg : decode cc pc = .ok (.aastore, 1))
    (kk : G D s0 p l e R s m args below meth c (g_up h a (t, gO D N (va_up f j (some b)))) k n Q (F0 m (pc + 1) ls rest)) : G D s0 p l e R s m args below meth c h k n Q (F0 m pc ls (.ref b :: .int (iZ i) :: .ref a :: rest)) := by
  obtain ⟨tb, ci, fs, hbb, hci⟩ := hob
  rcases hci with rfl | rfl
  · exact g_ast X ha ht hbb rfl tw_659 j hi hj hN hdg kk
  · exact g_ast X ha ht hbb rfl tw_660 j hi hj hN hdg kk
theorem al_app {L : List Nat} {b : Nat} {f : Nat → Option Nat} (hf : ∀ j, j < L.length → f j = some (L.getD j 0)) : ∀ j, j < (L ++ [b]).length → va_up f L.length (some b) j = some ((L ++ [b]).getD j 0) := by
  intro j hj
  rw [List.length_append] at hj
  by_cases h : j = L.length
  · subst h
    rw [va_up_self, List.getD_eq_getElem?_getD, List.getElem?_append_right (Nat.le_refl _), Nat.sub_self]
    rfl
  · have hl : j < L.length := by simp at hj; omega
    rw [va_up_ne _ _ h, hf j hl, List.getD_eq_getElem?_getD, List.getD_eq_getElem?_getD, List.getElem?_append_left hl]
theorem isAL_app {D : va_G} {h : gH} {a w e b cap : Nat} {mc : Int} {L : List Nat} {f : Nat → Option Nat} (fA : h a = some ((5, w), .inr (3, [.ref e, .int (iZ (L.length + 1)), .int (iZ mc)]))) (fE : h e = some ((14, a), gO D cap (va_up f L.length (some b)))) (h1 : L.length < cap) (h2 : cap ≤ 1600) (hf : ∀ j, j < L.length → f j = some (L.getD j 0)) : isAL D h a w (L ++ [b]) := by
  refine ⟨e, mc, ?_, Or.inr ⟨cap, _, fE, by omega, h2, by simp; omega, al_app hf⟩⟩
  have e1 : ((L ++ [b]).length : Int) = L.length + 1 := by simp
  rw [e1]
  exact fA
theorem g_ob.kp {h h' : gH} {b a : Nat} {t : Nat × Nat} {fs : List Value} (hb : g_ob h b) (hk : kp (fun q _ => q = a) h h') (ha : h a = some (t, .inr (3, fs))) : g_ob h' b := by
  obtain ⟨tb, ci, fb, q, z⟩ := hb
  refine ⟨tb, ci, fb, hk _ _ q (fun e => ?_), z⟩
  subst e
  cases ha.symm.trans q
  rcases z with z | z <;> cases z
