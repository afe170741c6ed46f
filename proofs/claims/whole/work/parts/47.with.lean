/-! METHODS WITH HANDLERS -/
def gMetW (D : va_G) (s0 : State) (l : Launch) (y : MethodName) (bytes : ByteArray) (maxL : Nat) (ret : Option FieldType) (hh : List (Nat × Nat × Nat × Nat)) (rm : Room) (av : List Value) (h : gH) (Po : Option Value → gH → Prop) : Prop :=
  Met l y [.codeWith y bytes maxL ret hh] rm (va_Pc av (fun U => g_M D s0 h U.heap ∧ s0.WarmedH U.vm)) (gQ D s0 Po) rm.cells rm.slots (fun q => s0.heap.size ≤ q)
theorem g_enterW {D : va_G} {s0 : State} {l : Launch} {y : MethodName} {bytes : ByteArray} {maxL : Nat} {ret : Option FieldType} {hh : List (Nat × Nat × Nat × Nat)} {rm : Room} {av : List Value} {h : gH} {Po : Option Value → gH → Prop} (B0 : gB D s0) (hy : plainName y.cls = true) (hlen : (lg_sl av).length ≤ maxL)
    (body : ∀ (p : Program) (e : Env) (s : State) (m : MethodId) (below : List Frame) (meth : Method) (c : Code) (ls : Array Slot), gX D s0 y.cls bytes maxL ret p s m meth c → c.exceptionTable.toList.map (fun h => (h.startPc, h.endPc, h.handlerPc, h.catchType)) = hh → meth.name = y.name → lv_has ls maxL (lv_args 0 av) →
      G D s0 p l e rm s m av.toArray below meth c h 0 0 (MQ below (gQ D s0 Po) av.toArray s rm.cells rm.slots (fun q => s0.heap.size ≤ q)) (F0 m 0 ls [])) : gMetW D s0 l y bytes maxL ret hh rm av h Po := by
  refine va_MetW (cc := bytes) (maxL := maxL) (ret := ret) (hh := hh) hy rfl ?_
  intro p e s m args below meth c s₁ B hml hv
  obtain ⟨rfl, hM, hW⟩ := hv
  have hl := lv_entry av hlen
  obtain ⟨m9, meth9, c9, hn9, h1, h2, -, -, h3, -⟩ := Cond.codeWith_spec (atoms_spec (ws := [Cond.codeWith y bytes maxL ret hh]) B.pre _ List.mem_cons_self)
  cases B.named.symm.trans hn9
  cases B.method.symm.trans h1
  cases (Stand.of_body B).code.symm.trans h2
  rw [lg_entry_eq]
  exact body p e s m below meth c _ ⟨B.exec, B.bytes, hml, B.returns, B.notSynchronized, findClass_of_methodNamed B.named, hW, B0⟩ h3 (name_of_methodNamed B.named B.method).1 hl s.heap [] 0 0 hM (fun q hq => by cases hq) (Nat.le_refl 0) (Nat.le_refl 0)
section GW
variable {D : va_G} {s0 : State} {p : Program} {l : Launch} {e : Env} {R : Room} {s : State} {m : MethodId} {args : Array Value} {below : List Frame} {meth : Method} {c : Code} {h : gH} {k n : Nat} {Q : State → Prop}
variable {own : String} {cc : ByteArray} {nL : Nat} {ret : Option FieldType} {pc : Nat} {ls : Array Slot} {rest st0 : List Value} {Po : Option Value → gH → Prop}
abbrev g_cwx (R : Room) (y : MethodName) (bytes : ByteArray) (maxL : Nat) (ry : Option FieldType) (hh : List (Nat × Nat × Nat × Nat)) (rm : Room) (na : Nat) : Prop :=
  (Cond.codeWith y bytes maxL ry hh ∈ lw_tbl ∧ Cond.initialized y.cls ∈ lw_tbl) ∧ (y.cls ≠ "java/lang/invoke/MethodHandle" ∧ y.cls ≠ "java/lang/invoke/VarHandle" ∧ (parseMethodDescriptor y.desc).map (fun d => d.parameters.length) = some na) ∧ rm.frames + 1 ≤ R.frames ∧ 8 + (maxL + 11) + rm.locals ≤ R.locals
theorem g_callSW (X : gX D s0 own cc nL ret p s m meth c) {y : MethodName} {bytes : ByteArray} {maxL index na : Nat} {ry : Option FieldType} {hh : List (Nat × Nat × Nat × Nat)} {rm : Room} {As : List Value} (hM : gMetW D s0 l y bytes maxL ry hh rm As h Po) (hst : st0 = As.reverse ++ rest) (w : g_cwx R y bytes maxL ry hh rm na) (hlink : Cond.methodLink own index y ∈ lw_tbl) (hstat : Cond.static y ∈ lw_tbl)
    (hn : As.length = na) (hsz : ls.size = nL) (hr : (rest.map fun v => v.category).sum ≤ 8) (hf : k + rm.cells ≤ R.cells ∧ n + rm.slots ≤ R.slots) (hdg : decode cc pc = .ok (.invokestatic index, 3))
    (kk : ∀ (v : Option Value) (h' : gH), Po v h' → G D s0 p l e R s m args below meth c h' (k + rm.cells) (n + rm.slots) Q (F0 m (pc + 3) ls (v.toList ++ rest))) : G D s0 p l e R s m args below meth c h k n Q (F0 m pc ls st0) := by
  refine g_back (A := As.toArray) (fun H locs cells slots hG h1 h2 => ?_) kk
  intro T hT Y
  obtain ⟨⟨w1, w2⟩, ⟨d1, d2, d3⟩, r1, r2⟩ := w
  have hcode : (Cond.codeWith y bytes maxL ry hh).before args s = true := X.w w1 rfl
  have hini : (Cond.initialized y.cls).before args s = true := X.w w2 rfl
  have hK : Free.Back l R p e below s args y 3 8 (PreOf R rm.cells rm.slots (va_Pc As (fun U => g_M D s0 h U.heap ∧ s0.WarmedH U.vm))) (PostOf (gQ D s0 Po) rm.cells rm.slots (fun q => s0.heap.size ≤ q)) :=
    va_backW (hh := hh) (bytes := bytes) (maxL := maxL) (ret := ry) hM g_blind rfl rfl r1 r2 (fun w hw a' U hW => by rw [List.mem_singleton.mp hw]; exact g_warm rfl hW hcode) List.mem_cons_self (fun a' U hW => g_warm rfl hW hini)
  obtain ⟨mk, methM, cM, hnamed, hmethM, -, -, -, -, -, -, hsigM⟩ := Cond.codeWith_spec hcode
  have hstatic : methM.isStatic = true := Cond.static_spec hnamed hmethM (X.w (args := args) hstat rfl)
  obtain ⟨kP, hkP, -⟩ := className_of_methodNamed hnamed
  have hinitP : kP.init = .initialized := Cond.initialized_spec (findClass_of_methodNamed hnamed) hkP hini
  have hdg' : decode c.code (F0 m pc ls st0).pc = .ok (.invokestatic index, 3) := by rw [X.2.1]; exact hdg
  have hlen : As.length = methM.sig.parameters.length := by
    rw [hsigM] at d3
    exact hn.trans (Option.some.inj d3).symm
  obtain ⟨vm₁, X₁, hstep₁⟩ := Y.invokestatic X.1 X.2.2.2.2.2.1 (X.w (args := args) hlink rfl) hnamed hmethM hstatic hkP hinitP ⟨d1, d2⟩ (g := F0 m pc ls st0) rfl (argsL := As) (rest := rest) hlen hst hdg'
  obtain ⟨v, ⟨U', l2, c2, s2⟩, X', ⟨g', mk', t, L, e1, e2, hq, q1, hL, q2, q3⟩, hsteps⟩ := hK m meth c ⟨T.setVm vm₁, locs, cells, slots⟩ { F0 m pc ls st0 with stack := rest } (.invokestatic index) mk As.toArray X₁ rfl (by rw [X.2.2.1]; exact hsz) hdg' (g_rm hr) (X₁.named hnamed) ⟨by show cells + rm.cells ≤ _; omega, by show slots + rm.slots ≤ _; omega, rfl, by show g_M D s0 h T.heap; rw [hT]; exact hG, State.WarmedH.trans X.2.2.2.2.2.2.1 X₁.warmed⟩
  dsimp only [Free.Pt.U, Free.Pt.locs, Free.Pt.cells, Free.Pt.slots] at X' e1 e2 q1 q2 q3 hsteps
  subst q1
  subst q2
  subst q3
  exact ⟨v, (T.setVm vm₁).calling g' mk' As.toArray, t, U', L, hT, X', hL, e1, e2, hq, fun target hh' => hstep₁ _ fun acts => by rw [doInvoke_state]; exact hsteps.trans hh'⟩
end GW
