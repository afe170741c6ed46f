/-! CAUGHT: the search for a handler whose classes may not be resolved yet -/
section GK
variable {e : Env} {s : State} {f : JFrame} {a : Addr}
theorem gk_at {Q : Handler → Pre} {E : CtlPost} {d : Bool} {acts : List Action} {x : ClassFile.ExceptionTableEntry} {t : List ClassFile.ExceptionTableEntry} {c : ClassId} {cell : Cell} (hx : covers x f.pc = true) (h0 : x.catchType ≠ 0)
    (hl : s.vm.ClassLinks e.platform f.method.cls x.catchType c) (hcell : s.heap[a]? = some cell) (hobj : cell.vm.isStatics = false) (hk : ∃ k, s.vm.classes[cell.cls]? = some k) (hc : ∃ k, s.vm.classes[c]? = some k) :
    Sem.wp (findHandler.go f a (x :: t)) Q E e d acts s ↔ if s.vm.assignable cell.cls c = true then Q (.found x.handlerPc) d acts (s.setVm (s.vm.noted f.method.cls x.catchType (.cls c))) else Sem.wp (findHandler.go f a t) Q E e d acts (s.setVm (s.vm.noted f.method.cls x.catchType (.cls c))) := by
  simp only [covers] at hx
  obtain ⟨ha, ht⟩ := (resolveClass_links e.toSetting hl).op (op := VmOp.resolveClass f.method.cls x.catchType) rfl
  have hal : s.vm.Alike (s.vm.noted f.method.cls x.catchType (.cls c)) := (Vm.Alike.refl s.vm).noted _ _ _
  obtain ⟨k1, hk1⟩ := hk
  obtain ⟨k2, hk2⟩ := hc
  obtain ⟨k1', hk1', -⟩ := hal.2.2 _ _ hk1
  obtain ⟨k2', hk2', -⟩ := hal.2.2 _ _ hk2
  have hob : ∀ k, cell.vm ≠ .statics k := VmData.ne_statics_of hobj
  have hfit' : (s.vm.noted f.method.cls x.catchType (.cls c)).assignable cell.cls c = s.vm.assignable cell.cls c := by rw [hal.assignable]
  cases hfit : s.vm.assignable cell.cls c <;> rw [hfit] at hfit' <;> simp [findHandler.go, hx, h0, ha, ht, hcell, hob, hk1', hk2', hfit', VmOp.dirties, VmOp.acts]
def gFT (e : Env) (s : State) (f : JFrame) (a : Addr) (h : Handler) (vm' : Vm) : Prop :=
  ∀ (Q : Handler → Pre) (E : CtlPost) (d : Bool) (acts : List Action), Sem.wp (findHandler f a) Q E e d acts s ↔ Q h d acts (s.setVm vm')
theorem gk_one {r : List Frame} {pc : Nat} {vm' : Vm} (hf : gFT e s f a (.found pc) vm') : (stepThrowing e s a (.java f :: r)).Is ((s.setVm vm').setFrames (.java { f with pc := pc, stack := [.ref a] } :: r)) [] := by
  simp only [stepThrowing, searchFrame, vmDo]
  generalize hr : Sem.go _ e false [] s = res
  obtain ⟨as, rfl, ha⟩ := Sem.eq_ok_of hr (a := Handler.found pc) (s' := s.setVm vm') (acts' := []) (by simp [hf _ _ _ _])
  exact ⟨rfl, ha⟩
theorem gk_steps {tb : Tables} {target : State} {c : ClassFile.Code} {below : List Frame} (h : At s f.method c below) {pc : Nat} {vm' : Vm} (hf : gFT e ((s.setTop f).pushFrame (.throwing a)) f a (.found pc) vm')
    (hrest : Steps tb e below ((s.setVm vm').setTop { f with pc := pc, stack := [.ref a] }) target) : Steps tb e below ((s.setTop f).pushFrame (.throwing a)) target := by
  obtain ⟨hgo, hw⟩ := h.throwing a
  refine Steps.head hgo hw ?_
  rw [stepThread_throwing (frames_entered h.top _), (gk_one (s := (s.setTop f).pushFrame (.throwing a)) hf).1]
  obtain ⟨g₀, hg⟩ := Option.isSome_iff_exists.mp h.top
  obtain ⟨r, hr⟩ := State.topJava?_eq_some.mp hg
  have hr' : (s.setVm vm').frames = .java g₀ :: r := hr
  rw [State.setTop_of_frames _ hr'] at hrest
  have e1 : ∀ (u : State) (F F' : List Frame), ((u.setFrames F).setVm vm').setFrames F' = (u.setVm vm').setFrames F' := fun u F F' => by
    have e2 : (u.setFrames F).setVm vm' = (u.setVm vm').setFrames F := rfl
    rw [e2, State.setFrames_setFrames]
  rw [hr, List.tail_cons, State.pushFrame, e1, State.setTop_of_frames _ hr, e1]
  exact hrest
end GK
/-- which handler of the method takes an exception of the class C thrown at pc -/
def gCat (own : String) (c : ClassFile.Code) (pc : Nat) (C : String) (hpc : Nat) : Prop :=
  (∃ (x : ClassFile.ExceptionTableEntry) (t : List ClassFile.ExceptionTableEntry), c.exceptionTable.toList = x :: t ∧ covers x pc = true ∧ x.catchType ≠ 0 ∧ Cond.classLink own x.catchType C ∈ lw_tbl ∧ x.handlerPc = hpc) ∨
  ∃ (x y : ClassFile.ExceptionTableEntry) (t : List ClassFile.ExceptionTableEntry) (C' : String), c.exceptionTable.toList = x :: y :: t ∧ covers x pc = true ∧ x.catchType ≠ 0 ∧ Cond.classLink own x.catchType C' ∈ lw_tbl ∧ Cond.not (.castable C C') ∈ g_stw ∧ covers y pc = true ∧ y.catchType ≠ 0 ∧ Cond.classLink own y.catchType C ∈ lw_tbl ∧ y.handlerPc = hpc
theorem gk_refl (vm : Vm) (c : ClassId) : vm.assignable c c = true := by
  show vm.assignableAux (255 + 1) c c = true
  rw [Vm.assignableAux, Bool.or_eq_true, beq_iff_eq]
  exact Or.inl rfl
theorem gk_not {C C' : String} {args : Array Value} {s : State} (h : (Cond.not (.castable C C')).before args s = true) {c t : ClassId} (hc : s.vm.findClass C = some c) (ht : s.vm.findClass C' = some t) : s.vm.assignable c t = false := by
  simp only [Cond.before, Cond.holds, Cond.value, hc, ht] at h
  simpa using h
theorem gk_find {D : va_G} {s0 : State} {p : Program} {l : Launch} {e : Env} {R : Room} {s : State} {m : MethodId} {args : Array Value} {below : List Frame} {meth : Method} {c : Code} {own : String} {cc : ByteArray} {nL : Nat} {ret : Option FieldType} {T : State} {locs : List Loc} {cells slots : Nat}
    (X : gX D s0 own cc nL ret p s m meth c) (Y : Stand p l e R s m args below meth c T locs cells slots) {g : JFrame} (hg : g.method = m) {a : Addr} {C : String} {hpc : Nat} (hcat : gCat own c g.pc C hpc) (hth : gTh C a T) :
    ∃ vm', Stand p l e R s m args below meth c (T.setVm vm') locs cells slots ∧ gFT e ((T.setTop g).pushFrame (.throwing a)) g a (.found hpc) vm' := by
  obtain ⟨cell, hcell, hobj, hfc⟩ := hth
  subst hg
  have hpl : e.platform.magicAccessors = ({} : Platform).magicAccessors := by rw [Y.admits.platform]
  have hown := X.2.2.2.2.2.1
  have hal := Y.warmed.alike
  have hfc' : s.vm.findClass C = some cell.cls := by rw [← hal.findClass]; exact hfc
  have hkc : ∃ k, T.vm.classes[cell.cls]? = some k := Vm.classAt_of_findClass hfc
  have hm : ((T.setTop g).pushFrame (.throwing a)).vm.method? g.method = some meth := Y.method'
  rcases hcat with ⟨x, t, ht, hx, h0, hlk, rfl⟩ | ⟨x, y, t, C', ht, hx, h0, hlk, hno, hy, h1, hlk2, rfl⟩
  · obtain ⟨c', hc', hcl⟩ := Cond.classLink_spec hown (X.w (args := args) hlk rfl) e.platform hpl
    cases hfc'.symm.trans hc'
    obtain ⟨dk, _, _, kt, hd, _, _, _, _, hkt, _, hopen⟩ := hcl.here
    have hW' : s.WarmedH (T.vm.noted g.method.cls x.catchType (.cls cell.cls)) := Y.warmed.noted hd hopen (State.rightAt_cls hcl)
    refine ⟨_, Y.noted hW', fun Q E d acts => ?_⟩
    rw [W.findHandler_eq hm Y.code, ht, gk_at (s := (T.setTop g).pushFrame (.throwing a)) (cell := cell) hx h0 (Y.warmed.classLinks hcl) hcell hobj hkc hkc, if_pos (gk_refl _ _)]
    rfl
  · obtain ⟨c', hc', hcl⟩ := Cond.classLink_spec hown (X.w (args := args) hlk rfl) e.platform hpl
    obtain ⟨c2, hc2, hcl2⟩ := Cond.classLink_spec hown (X.w (args := args) hlk2 rfl) e.platform hpl
    cases hfc'.symm.trans hc2
    obtain ⟨dk, _, _, kt, hd, _, _, _, _, hkt, _, hopen⟩ := hcl.here
    obtain ⟨dk2, _, _, kt2, hd2, _, _, _, _, hkt2, _, hopen2⟩ := hcl2.here
    have hW1 : s.WarmedH (T.vm.noted g.method.cls x.catchType (.cls c')) := Y.warmed.noted hd hopen (State.rightAt_cls hcl)
    have hW2 : s.WarmedH ((T.vm.noted g.method.cls x.catchType (.cls c')).noted g.method.cls y.catchType (.cls cell.cls)) := hW1.noted hd2 hopen2 (State.rightAt_cls hcl2)
    have hkc' : ∃ k, T.vm.classes[c']? = some k := by obtain ⟨k', h', -⟩ := hal.2.2 _ _ hkt; exact ⟨k', h'⟩
    have hkc2 : ∃ k, (T.vm.noted g.method.cls x.catchType (.cls c')).classes[cell.cls]? = some k := by
      obtain ⟨k', h', -⟩ := hW1.alike.2.2 _ _ hkt2
      exact ⟨k', h'⟩
    have hnot : T.vm.assignable cell.cls c' = false := by
      have z := gk_not (X.2.2.2.2.2.2.2.2.2.2.2.2.2 _ hno) (c := cell.cls) (t := c') (by rw [← X.2.2.2.2.2.2.1.alike.findClass]; exact hfc') (by rw [← X.2.2.2.2.2.2.1.alike.findClass]; exact hc')
      rw [hal.assignable, X.2.2.2.2.2.2.1.alike.assignable]
      exact z
    refine ⟨_, Y.noted hW2, fun Q E d acts => ?_⟩
    rw [W.findHandler_eq hm Y.code, ht, gk_at (s := (T.setTop g).pushFrame (.throwing a)) (cell := cell) hx h0 (Y.warmed.classLinks hcl) hcell hobj hkc hkc', if_neg (by rw [show ((T.setTop g).pushFrame (.throwing a)).vm = T.vm from rfl, hnot]; decide)]
    rw [show ((T.setTop g).pushFrame (.throwing a)).vm = T.vm from rfl]
    rw [gk_at (s := ((T.setTop g).pushFrame (.throwing a)).setVm (T.vm.noted g.method.cls x.catchType (.cls c'))) (cell := cell) hy h1 (hW1.classLinks hcl2) hcell hobj hkc2 hkc2, if_pos (gk_refl _ _)]
    rfl
section GX
variable {D : va_G} {s0 : State} {p : Program} {l : Launch} {e : Env} {R : Room} {s : State} {m : MethodId} {args : Array Value} {below : List Frame} {meth : Method} {c : Code} {h : gH} {k n : Nat} {Q : State → Prop}
variable {own : String} {cc : ByteArray} {nL : Nat} {ret : Option FieldType} {pc : Nat} {ls : Array Slot} {rest st0 : List Value} {Po : Option Value → gH → Prop} {Px : String → gH → Prop}
set_option maxHeartbeats 4000000 in
/-- a call that may throw, from a method with handlers -/
theorem g_callVX (X : gX D s0 own cc nL ret p s m meth c) {y : MethodName} {bytes : ByteArray} {maxL index na b ci : Nat} {ry : Option FieldType} {rm : Room} {As : List Value} {t : Nat × Nat} {fs : List Value} {q : vw_C} (hM : gMetX D s0 l y bytes maxL ry rm (.ref b :: As) h Po Px) (hst : st0 = As.reverse ++ .ref b :: rest) (hbb : h b = some (t, .inr (ci, fs))) (hc : vwCl[ci]? = some q) (w : g_cw R y bytes maxL ry rm na) (hlink : Cond.methodLink own index y ∈ lw_tbl) (hinst : Cond.instanceMethod y ∈ lw_tbl) (hsel : Cond.selects q.1 y y ∈ lw_tbl)
    (hn : As.length = na) (hsz : ls.size = nL) (hr : (rest.map fun v => v.category).sum ≤ 8) (hf : k + rm.cells ≤ R.cells ∧ n + rm.slots ≤ R.slots) (hdg : decode cc pc = .ok (.invokevirtual index, 3))
    (kx : ∀ (C : String) (h' : gH) (x : Nat), Px C h' → ∃ hpc, gCat own c pc C hpc ∧ G D s0 p l e R s m args below meth c h' (k + rm.cells) (n + rm.slots) Q (F0 m hpc ls [.ref x]))
    (kk : ∀ (v : Option Value) (h' : gH), Po v h' → G D s0 p l e R s m args below meth c h' (k + rm.cells) (n + rm.slots) Q (F0 m (pc + 3) ls (v.toList ++ rest))) : G D s0 p l e R s m args below meth c h k n Q (F0 m pc ls st0) := by
  intro H locs cells slots hMg hl h1 h2 T hT Y
  obtain ⟨hrc, hrs, hfr, hlo, hws, hcw, hcode, hini, hy, hlen, hlk⟩ := g_cwB (args := args) X w hlink
  obtain ⟨cellB, hcB, hoB, hclB⟩ := va_recv X.K (g_P hMg hbb) hc (q0 := 0) rfl
  have hin : (Cond.instanceMethod y).before args s = true := X.w hinst rfl
  have hse : (Cond.selects q.1 y y).before args s = true := X.w hsel rfl
  obtain ⟨mk, methM, hnamed, hmethM, hstM, habM⟩ := Cond.instanceMethod_spec hin
  obtain ⟨methM', cM, hmethM', -, -, -, -, -, -, hsigM⟩ := Cond.code_spec hnamed hcode
  cases hmethM.symm.trans hmethM'
  obtain ⟨c2, r2, m2, q1, q2, q3, q4, kP, hkP, hkPi⟩ := Cond.selects_spec hse
  cases hclB.symm.trans q1
  cases (State.methodFound?_of_named hnamed hy).symm.trans q2
  cases hnamed.symm.trans q3
  have hselP : selectMethod e.platform s.vm cellB.cls mk = .method mk := by rw [Launch.admits_selectMethod Y.admits]; exact q4
  have hdg' : decode c.code (F0 m pc ls st0).pc = .ok (.invokevirtual index, 3) := by rw [X.2.1]; exact hdg
  obtain ⟨vm₁, X₁, hstep₁⟩ := Y.invokevirtual X.1 X.2.2.2.2.2.1 hlk hnamed hmethM hstM hkP hkPi hy (a := b) (cell := cellB) (by rw [hT]; exact hcB)
    (fun z h => by rw [h] at hoB; cases hoB) hselP hmethM habM hkP hkPi (g := F0 m pc ls st0) rfl (argsL := As) (rest := rest) (hn.trans (hlen _ hsigM)) hst hdg'
  generalize hU : T.setVm vm₁ = U at X₁
  have hUh : U.heap = H := by rw [← hU]; exact hT
  have hnU : U.methodNamed? y = some mk := X₁.named hnamed
  have hsizeg : ({ F0 m pc ls st0 with stack := rest } : JFrame).locals.size = c.maxLocals := by rw [X.2.2.1]; exact hsz
  have h2c : (Cond.code y bytes maxL ry).before (Value.ref b :: As).toArray U = true := hws _ hcw _ _ X₁.warmed
  obtain ⟨methY, cY, hmY, hcY, -, hlY, -, -, -, -⟩ := Cond.code_spec hnU h2c
  obtain ⟨kY, hkY, -⟩ := className_of_methodNamed hnU
  have hinitY : kY.init = .initialized := Cond.initialized_spec (args := (Value.ref b :: As).toArray) (findClass_of_methodNamed hnU) hkY (word_at X₁.warmed (Or.inl (by first | rfl | simp [Cond.onTables, Cond.keeps, Cond.steady])) hini)
  have hAt : At U ({ F0 m pc ls st0 with stack := rest } : JFrame).method c below := X₁.here
  have happ : (headSpec [.code y bytes maxL ry] rm).appliesLoose y e.platform (U.calling { F0 m pc ls st0 with stack := rest } mk (Value.ref b :: As).toArray) = true :=
    Spec.appliesLoose_calling (g := { F0 m pc ls st0 with stack := rest }) hAt hdg' hnU hkY hinitY
      (X₁.room_calling (g := { F0 m pc ls st0 with stack := rest }) (R' := rm) hsizeg hmY hcY hfr (by rw [hlY]; have z : 2 * ({ F0 m pc ls st0 with stack := rest } : JFrame).monitorRoom + (({ F0 m pc ls st0 with stack := rest } : JFrame).stack.map fun v => v.category).sum ≤ 8 := g_rm (m := m) (pc := pc) (ls := ls) (st0 := st0) hr; omega) (by omega) (by omega)) (atoms_intro fun w hw => hws w hw _ _ X₁.warmed)
  obtain ⟨mid, hmid⟩ := hAt.above
  have hfrm : (U.setTop { F0 m pc ls st0 with stack := rest }).frames = (.java { F0 m pc ls st0 with stack := rest } :: mid) ++ below := by rw [State.frames_setTop' _ hAt.top, hmid]; rfl
  have hMF := hM
  unfold gMetX MetX at hMF
  obtain ⟨o, s₂, hsteps, -, hend, hq⟩ := Steps.callFree hMF p X₁.admits X₁.cas X₁.clock (acts := []) hfrm happ (g_blind _ _ _ _ ⟨rfl, by rw [hUh]; exact hMg, State.WarmedH.trans X.2.2.2.2.2.2.1 X₁.warmed⟩) trivial
  rw [State.frames_setTop' _ hAt.top, X₁.tail] at hend
  obtain ⟨hQ, L, hFE, hL⟩ := hq
  rcases hQ with ⟨v, h', rfl, hpo, hM'⟩ | ⟨x, C, h', rfl, hpx, hM', hth⟩
  · obtain ⟨T', X', hW', hs', ht'⟩ := X₁.outOf (g := { F0 m pc ls st0 with stack := rest }) rfl hdg' hend hFE.1 hFE.2
    have hheap : T'.heap = s₂.heap := by rw [ht']; simp
    obtain ⟨t2, a1, b1⟩ := kk v h' hpo T'.heap (locs ++ L) (cells + rm.cells) (slots + rm.slots) (by rw [hheap]; exact hM') (fun q hq => by
      rcases List.mem_append.mp hq with h | h
      · exact hl q h
      · exact hL q h) (Nat.add_le_add_right h1 _) (Nat.add_le_add_right h2 _) T' rfl X'
    exact ⟨t2, hstep₁ _ fun acts => by rw [hU, doInvoke_state]; exact hsteps.trans (by rw [ht']; exact a1), b1⟩
  · obtain ⟨T', X', hW', hs', ht'⟩ := X₁.outOfThrown (g := { F0 m pc ls st0 with stack := rest }) rfl hend hFE.1 hFE.2
    have hheap : T'.heap = s₂.heap := by rw [ht', Stand.throwing_heap]
    have hvm : T'.vm = s₂.vm := by rw [ht', Stand.throwing_vm]
    obtain ⟨hpc, hcat, kg⟩ := kx C h' x hpx
    obtain ⟨vm', XV, hft⟩ := gk_find X X' (g := { F0 m pc ls st0 with stack := rest }) rfl hcat (a := x) (by
      obtain ⟨cell, z1, z2, z3⟩ := hth
      exact ⟨cell, by rw [hheap]; exact z1, z2, by rw [hvm]; exact z3⟩)
    obtain ⟨t2, a1, b1⟩ := kg T'.heap (locs ++ L) (cells + rm.cells) (slots + rm.slots) (by rw [hheap]; exact hM') (fun q hq => by
      rcases List.mem_append.mp hq with h | h
      · exact hl q h
      · exact hL q h) (Nat.add_le_add_right h1 _) (Nat.add_le_add_right h2 _) (T'.setVm vm') rfl XV
    exact ⟨t2, hstep₁ _ fun acts => by rw [hU, doInvoke_state]; exact hsteps.trans (by rw [ht']; exact gk_steps X'.here hft a1), b1⟩
end GX
