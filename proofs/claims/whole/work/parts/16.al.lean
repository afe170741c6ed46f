/-! rows for the JDK's lists: the static empty array, class objects, casts, copying -/
section GA
variable {D : va_G} {s0 : State} {p : Program} {l : Launch} {e : Env} {R : Room} {s : State} {m : MethodId} {args : Array Value} {below : List Frame} {meth : Method} {c : Code} {h : gH} {k n : Nat} {Q : State → Prop}
variable {own : String} {cc : ByteArray} {nL : Nat} {ret : Option FieldType} {pc : Nat} {ls : Array Slot} {rest : List Value} {a : Nat}
theorem g_gets (X : gX D s0 own cc nL ret p s m meth c) {index : Nat} (hlink : Cond.fieldLink own index "java/util/ArrayList" "DEFAULTCAPACITY_EMPTY_ELEMENTDATA" "[Ljava/lang/Object;" ∈ lw_tbl) (hdg : decode cc pc = .ok (.getstatic index, 3))
    (kk : G D s0 p l e R s m args below meth c h k n Q (F0 m (pc + 3) ls (.ref (D.1 200) :: rest))) : G D s0 p l e R s m args below meth c h k n Q (F0 m pc ls rest) := by
  intro H locs cells slots hM hl h1 h2
  obtain ⟨cf, kf, fi, f, a, cell, z1, z2, z3, z4, z5, z6, z7, z8⟩ := va_Z.moved X.2.2.2.2.2.2.1.alike X.2.2.2.2.2.2.2.2.2.1
  exact W.gets X.1 X.2.1 X.2.2.2.2.2.1 (X.w hlink rfl) z1 z2 z3 z4 (by rw [hM.2.1 a (Nat.not_le.mp z8)]; exact z5) (fun e => by rw [e] at z6; cases z6) z7 rfl hdg (kk H locs cells slots hM hl h1 h2)
theorem g_alens (X : gX D s0 own cc nL ret p s m meth c) (hdg : decode cc pc = .ok (.arraylength, 1))
    (kk : G D s0 p l e R s m args below meth c h k n Q (F0 m (pc + 1) ls (.int (iZ 0) :: rest))) : G D s0 p l e R s m args below meth c h k n Q (F0 m pc ls (.ref (D.1 200) :: rest)) := by
  intro H locs cells slots hM hl h1 h2
  obtain ⟨cell, z1, z2, z3, z4, z5, z6, z7⟩ := va_T.moved X.2.2.2.2.2.2.1.alike X.2.2.2.2.2.2.2.2.2.2.1
  exact W.alen (n := iZ 0) X.1 X.2.1 (by rw [hM.2.1 _ (Nat.not_le.mp z7)]; exact z1) z2 (z5.trans (iZ_nat 0)) rfl rfl hdg (kk H locs cells slots hM hl h1 h2)
theorem g_acmpT (X : gX D s0 own cc nL ret p s m meth c) {off : Int} {tgt : Nat} (hdg : decode cc pc = .ok (.if_acmp .eq off, 3)) (ht : (pc : Int) + off = (tgt : Int)) (kk : G D s0 p l e R s m args below meth c h k n Q (F0 m tgt ls rest)) : G D s0 p l e R s m args below meth c h k n Q (F0 m pc ls (.ref a :: .ref a :: rest)) :=
  g_2 (fun k1 k2 => lv_acmp_eq (rx := some a) (ry := some a) X.1 X.2.1 hdg ht k1 k2) (fun _ => kk) (fun z => absurd rfl z)
theorem g_acmpF (X : gX D s0 own cc nL ret p s m meth c) {off : Int} {tgt : Nat} (hdg : decode cc pc = .ok (.if_acmp .ne off, 3)) (ht : (pc : Int) + off = (tgt : Int)) (kk : G D s0 p l e R s m args below meth c h k n Q (F0 m (pc + 3) ls rest)) : G D s0 p l e R s m args below meth c h k n Q (F0 m pc ls (.ref a :: .ref a :: rest)) :=
  g_2 (fun k1 k2 => lv_acmp_ne (rx := some a) (ry := some a) X.1 X.2.1 hdg ht k1 k2) (fun z => absurd rfl z) (fun _ => kk)
theorem g_ldcM (X : gX D s0 own cc nL ret p s m meth c) {index : Nat} (hlink : Cond.classLink own index "[Ljava/lang/Object;" ∈ lw_tbl) (hdg : decode cc pc = .ok (.ldc index, 2))
    (kk : G D s0 p l e R s m args below meth c h k n Q (F0 m (pc + 2) ls (.ref (D.1 201) :: rest))) : G D s0 p l e R s m args below meth c h k n Q (F0 m pc ls rest) :=
  g_1 (fun w => va_ldcM X.1 X.2.1 X.2.2.2.2.2.1 (X.w hlink rfl) (va_Mi.moved X.2.2.2.2.2.2.1.alike X.2.2.2.2.2.2.2.2.2.2.2.1) hdg w) kk
theorem g_nmO (X : gX D s0 own cc nL ret p s m meth c) : s.vm.findClass "[Ljava/lang/Object;" = some (D.1 102) := va_nmO (X.K.2 2 _ rfl).2 (by decide)
theorem g_getC (X : gX D s0 own cc nL ret p s m meth c) {t : Nat × Nat} {N : Nat} {f : Nat → Option Nat} (ha : h a = some (t, gO D N f)) {index : Nat} (hlink : Cond.methodLink own index ⟨"java/lang/Object", "getClass", "()Ljava/lang/Class;"⟩ ∈ lw_tbl) (hsz : ls.size = nL) (hfr : 1 ≤ R.frames) (hlo : (rest.map fun v => v.category).sum + 14 ≤ R.locals) (hdg : decode cc pc = .ok (.invokevirtual index, 3))
    (kk : G D s0 p l e R s m args below meth c h k n Q (F0 m (pc + 3) ls (.ref (D.1 201) :: rest))) : G D s0 p l e R s m args below meth c h k n Q (F0 m pc ls (.ref a :: rest)) :=
  fun H locs cells slots hM hl h1 h2 => va_getC (C := "[Ljava/lang/Object;") X.1 X.2.1 (by rw [X.2.2.1, hsz]) X.2.2.2.2.2.1 (X.w hlink rfl) (X.w tw_656 rfl) (X.w tw_655 rfl) (X.w tw_249 rfl) (X.w tw_259 rfl) (va_Mi.moved X.2.2.2.2.2.2.1.alike X.2.2.2.2.2.2.2.2.2.2.2.1) ⟨_, (hM.1 a _ ha).1, rfl, g_nmO X⟩ hfr hlo hdg (kk H locs cells slots hM hl h1 h2)
theorem g_cast (X : gX D s0 own cc nL ret p s m meth c) {t : Nat × Nat} {ci index : Nat} {fs : List Value} {q : vw_C} {nm : String} (ha : h a = some (t, .inr (ci, fs))) (hc : vwCl[ci]? = some q) (hlink : Cond.classLink own index nm ∈ lw_tbl) (hcast : Cond.castable q.1 nm ∈ lw_tbl) (hdg : decode cc pc = .ok (.checkcast index, 3))
    (kk : G D s0 p l e R s m args below meth c h k n Q (F0 m (pc + 3) ls (.ref a :: rest))) : G D s0 p l e R s m args below meth c h k n Q (F0 m pc ls (.ref a :: rest)) :=
  fun H locs cells slots hM hl h1 h2 => va_castY X.1 X.2.1 X.2.2.2.2.2.1 (X.w hlink rfl) (va_Nw.of rfl (X.w (args := args) hcast rfl)) (va_recv X.K (g_P hM ha) hc (q0 := 0) rfl) hdg (kk H locs cells slots hM hl h1 h2)
end GA
/-- an object that may lie in a list -/
def g_ob (h : gH) (b : Nat) : Prop := ∃ (t : Nat × Nat) (ci : Nat) (fs : List Value), h b = some (t, .inr (ci, fs)) ∧ (ci = 1 ∨ ci = 2)
theorem g_obAny {D : va_G} {s0 : State} {own : String} {cc : ByteArray} {nL : Nat} {ret : Option FieldType} {p : Program} {s : State} {m : MethodId} {meth : Method} {c : Code} (X : gX D s0 own cc nL ret p s m meth c) {h : gH} {H : Heap} (hM : g_M D s0 h H) {b : Nat} (hb : g_ob h b) : va_Any "java/lang/Object" s H b := by
  obtain ⟨t, ci, fs, hb, hci⟩ := hb
  have key : ∀ q : vw_C, vwCl[ci]? = some q → Cond.castable q.1 "java/lang/Object" ∈ lw_tbl → va_Any "java/lang/Object" s H b := by
    intro q hc hw
    refine va_rAny (q0 := 0) X.K (g_P hM hb) rfl hc (fun comp c0 e1 e2 => ?_)
    obtain ⟨c1, t1, f1, f2, f3⟩ := Cond.castable_spec (X.w (args := #[]) hw rfl)
    cases e2.symm.trans f1
    cases e1.symm.trans f2
    exact f3
  rcases hci with rfl | rfl
  · exact key _ rfl tw_659
  · exact key _ rfl tw_660
section GB
variable {D : va_G} {s0 : State} {p : Program} {l : Launch} {e : Env} {R : Room} {s : State} {m : MethodId} {args : Array Value} {below : List Frame} {meth : Method} {c : Code} {h : gH} {k n : Nat} {Q : State → Prop}
variable {own : String} {cc : ByteArray} {nL : Nat} {ret : Option FieldType} {pc : Nat} {ls : Array Slot} {rest : List Value} {a : Nat}
/-- System.arraycopy from the head of one array of references to the head of another -/
theorem g_copy (X : gX D s0 own cc nL ret p s m meth c) {t0 t1 : Nat × Nat} {a0 n0 n1 N : Nat} {f g : Nat → Option Nat} (ha0 : h a0 = some (t0, gO D n0 f)) (ha1 : h a = some (t1, gO D n1 g)) (ht : t1.1 ≠ 0) {index : Nat} (hlink : Cond.methodLink own index arraycopyName ∈ lw_tbl) {i : Int} (hi : i = (N : Int)) (h4 : N ≤ n0) (h5 : N ≤ n1) (hN : N < 2147483648) (hel : ∀ j, j < N → ∀ y, f j = some y → g_ob h y)
    (hsz : ls.size = nL) (hfr : 1 ≤ R.frames) (hlo : (rest.map fun v => v.category).sum + (nativeFrameWords "java/lang/System" "arraycopy" 5 + 11) ≤ R.locals) (hdg : decode cc pc = .ok (.invokestatic index, 3))
    (kk : G D s0 p l e R s m args below meth c (g_up h a (t1, gO D n1 (fun j => if j < N then f j else g j))) k n Q (F0 m (pc + 3) ls rest)) : G D s0 p l e R s m args below meth c h k n Q (F0 m pc ls (.int (iZ i) :: .int (iZ 0) :: .ref a :: .int (iZ 0) :: .ref a0 :: rest)) := by
  intro H locs cells slots hM hl h1 h2 T hT Y
  have hc0 : H[a0]? = some (vp_cell (D.1 102) (n0, .inr (.inr (.inr (.inr f))))) := (hM.1 a0 _ ha0).1
  have hc1 : H[a]? = some (vp_cell (D.1 102) (n1, .inr (.inr (.inr (.inr g))))) := (hM.1 a _ ha1).1
  obtain ⟨-, k0, hk0, cm0, hkk0⟩ := (X.K.2 2 _ rfl).1 n0 (fun j => va_rf (f j))
  have z0 : (iZ 0).toNatClampNeg = 0 := iZ_n (j := 0) rfl (by omega)
  have zi : (iZ i).toNatClampNeg = N := iZ_n hi hN
  have i0 : (iZ 0).toInt = 0 := iZ_I ⟨by omega, by omega⟩
  have ii : (iZ i).toInt = N := by rw [iZ_I ⟨by omega, by omega⟩, hi]
  obtain ⟨vm', X', step⟩ := Y.arraycopy X.1 X.2.2.2.2.2.1 (X.w hlink rfl) (X.w tw_271 rfl) (X.w tw_270 rfl) (X.w tw_16 rfl) (src := a0) (dst := a) (cs := vp_cell (D.1 102) (n0, .inr (.inr (.inr (.inr f))))) (cd := vp_cell (D.1 102) (n1, .inr (.inr (.inr (.inr g))))) (srcPos := iZ 0) (destPos := iZ 0) (n := iZ i) (by rw [hT]; exact hc0) (by rw [hT]; exact hc1)
    (fun _ h => by cases h) (fun _ h => by cases h) (fun h => by cases h) (fun h => by cases h) hk0 hk0 hkk0 hkk0 rfl (iZ_nn (by omega) (by omega)) (iZ_nn (by omega) (by omega)) (iZ_nn (by omega) (by omega))
    (by rw [i0, ii]; show ¬ _ > ((arrV (D.1 102) n0 (fun j => va_rf (f j))).slots.size : Int); rw [arrV_size]; omega)
    (by rw [i0, ii]; show ¬ _ > ((arrV (D.1 102) n1 (fun j => va_rf (g j))).slots.size : Int); rw [arrV_size]; omega)
    (fun vm₁ hal j hj => by
      rw [zi] at hj
      have e1 : (vp_cell (D.1 102) (n0, .inr (.inr (.inr (.inr f))))).slots.getD ((iZ 0).toNatClampNeg + j) .null = va_rf (f j) := by
        rw [z0, Nat.zero_add]
        show (arrV (D.1 102) n0 (fun j => va_rf (f j))).slots.getD _ _ = _
        rw [Array.getD_eq_getD_getElem?, arrV_read _ _ (by omega)]
        rfl
      rw [e1]
      cases hy : f j with
      | none => exact ⟨rfl, trivial⟩
      | some y =>
        obtain ⟨cellV, g1, g2, ⟨kC, hkC⟩, hasg⟩ := g_obAny X hM (hel j hj y hy)
        obtain ⟨kA, comp, r1, r2, r3, -⟩ := (X.K.2 2 _ rfl).2
        cases hk0.symm.trans r1
        cases hkk0.symm.trans r2
        obtain ⟨kE, hkE, -⟩ := Vm.findClass_spec r3
        obtain ⟨kC', hkC', -⟩ := hal.2.2 _ _ hkC
        obtain ⟨kE', hkE', -⟩ := hal.2.2 _ _ hkE
        refine ⟨rfl, cellV, (show T.heap[y]? = some cellV by rw [hT]; exact g1), (fun q h => by rw [h] at g2; cases g2), ⟨kC', hkC'⟩, ?_, ?_⟩
        · exact ⟨kE', hkE'⟩
        · show vm₁.assignable _ _ = true
          rw [hal.assignable]
          exact hasg _ r3)
    (g := F0 m pc ls (.int (iZ i) :: .int (iZ 0) :: .ref a :: .int (iZ 0) :: .ref a0 :: rest)) rfl (by rw [X.2.2.1]; exact hsz) (rest := rest) rfl (by rw [X.2.1]; exact hdg) hfr (by show 2 * 0 + _ + _ ≤ _; omega)
  have e1 : copied (vp_cell (D.1 102) (n0, .inr (.inr (.inr (.inr f))))) (vp_cell (D.1 102) (n1, .inr (.inr (.inr (.inr g))))) (iZ 0) (iZ 0) (iZ i) = vp_cell (D.1 102) (n1, .inr (.inr (.inr (.inr (fun j => if j < N then f j else g j))))) := by
    have hcp : (fun j => if j < N then f j else g j) = va_cpy f g 0 0 N := by
      funext j
      simp [va_cpy]
    rw [hcp, vp_cell_q, vp_cell_q, vp_cell_q]
    show (arrV (D.1 102) n1 (fun j => va_rf (g j))).storeRun (iZ 0).toNatClampNeg ((arrV (D.1 102) n0 (fun j => va_rf (f j))).stretch (iZ 0).toNatClampNeg (iZ i).toNatClampNeg) = _
    rw [z0, zi]
    exact va_copied (fun z => va_rf z) (D.1 102) (D.1 102) f g (by omega)
  rw [e1] at X' step
  have hlt : a < H.size := (Array.getElem?_eq_some_iff.mp hc1).1
  have hheap : ((T.setVm vm').setCell a (vp_cell (D.1 102) (n1, .inr (.inr (.inr (.inr (fun j => if j < N then f j else g j))))))).heap = H.setIfInBounds a (vp_cell (D.1 102) (n1, .inr (.inr (.inr (.inr (fun j => if j < N then f j else g j)))))) := by rw [← hT]; rfl
  have oq : ∀ q : Nat, q ≠ a → (H.setIfInBounds a (vp_cell (D.1 102) (n1, .inr (.inr (.inr (.inr (fun j => if j < N then f j else g j)))))))[q]? = H[q]? := fun q hq => by simp [Array.getElem?_setIfInBounds, Ne.symm hq]
  obtain ⟨t, b1, b2⟩ := kk _ _ cells slots (hM.set ha1 ht (y := (t1, gO D n1 (fun j => if j < N then f j else g j))) (show (H.setIfInBounds a _)[a]? = some _ by simp [Array.getElem?_setIfInBounds, hlt]) (by simp) oq) (fun q hq => by
      rcases List.mem_append.mp hq with h | h
      · exact hl q h
      · obtain ⟨z, -, hz⟩ := List.mem_map.mp h
        rw [← hz]
        exact (hM.1 a _ ha1).2 ht) h1 h2 _ hheap X'
  exact ⟨t, step t b1, b2⟩
end GB
