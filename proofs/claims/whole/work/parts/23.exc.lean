/-! EXCEPTIONS: a walk begun anew in the middle of a method; a method that throws; a call that may throw; the handler -/
theorem gs_base {T U : State} {fs : List Frame} {locs : List Loc} {k n : Nat} : (T.setFrames fs).sameButNew U locs k n ↔ T.sameButNew U locs k n := by
  unfold State.sameButNew
  rw [State.setFrames_setFrames]
  exact Iff.rfl
theorem gs_rebase {p : Program} {l : Launch} {e : Env} {R : Room} {s : State} {m : MethodId} {args : Array Value} {below : List Frame} {meth : Method} {c : Code} {T : State} {locs : List Loc} {cells slots : Nat} (X : Stand p l e R s m args below meth c T locs cells slots) {R' : Room} (h1 : R'.frames ≤ R.frames) (h2 : R'.locals ≤ R.locals) (h3 : cells + R'.cells ≤ R.cells) (h4 : slots + R'.slots ≤ R.slots) :
    Stand p l e R' (T.setFrames (.invoking m args :: below)) m args below meth c T [] 0 0 := by
  obtain ⟨g₀, hfr⟩ := X.frames_eq
  have hcur : T.cur < T.threads.size := State.cur_lt_of_frames hfr
  have hff : (T.setFrames (.invoking m args :: below)).frames = .invoking m args :: below := State.frames_setFrames _ hcur
  obtain ⟨t, ht, -⟩ := State.frames_cons hfr
  refine ⟨X.admits, X.cas, X.clock, hff, ?_, ?_, X.method', X.code, X.here, X.tail, State.WarmedH.refl _, by rw [State.stackLimits_setFrames], by rw [State.stackBytes_setFrames], gs_base.mpr (State.sameButNew.refl T ht)⟩
  · have hr := X.room
    have hm : (T.setFrames (.invoking m args :: below)).vm.method? m = some meth := X.method'
    simp only [State.hasRoom, Bool.and_eq_true, decide_eq_true_eq] at hr ⊢
    rw [State.localsInUse_invoking X.frames X.method X.code] at hr
    rw [State.localsInUse_invoking hff hm X.code, hff, State.stackLimits_setFrames, X.limits, State.stackBytes_setFrames, X.bytes]
    rw [X.frames] at hr
    have a1 := X.heapSize
    have a2 := X.used
    have a3 : (T.setFrames (.invoking m args :: below)).heap.size = T.heap.size := rfl
    have a4 : (T.setFrames (.invoking m args :: below)).slotsUsed = T.slotsUsed := rfl
    obtain ⟨⟨⟨⟨r1, r2, r3, r4, r5, r6⟩, r7⟩, r8⟩, r9⟩ := hr
    exact ⟨⟨⟨⟨by omega, by omega, by omega, by omega, by omega, r6⟩, by omega⟩, by omega⟩, X.book⟩
  · have hh := X.hears
    have key : ∀ q : MethodId, T.vm.method? q = s.vm.method? q := fun q => by rw [X.warmed.alike.method?]
    rcases below with _ | ⟨y, r⟩
    · simp only [State.hears] at hh ⊢
      show ((T.setFrames _).vm.method? m).any _ = true
      rw [show (T.setFrames (.invoking m args :: [])).vm.method? m = s.vm.method? m from key m]
      exact hh
    · cases y
      case java g =>
        simp only [State.hears, State.code?_eq] at hh ⊢
        rw [show (T.setFrames (.invoking m args :: .java g :: r)).vm.method? g.method = s.vm.method? g.method from key _]
        exact hh
      case native g => rfl
      case proc g => rfl
      all_goals
        simp only [State.hears] at hh ⊢
        rw [show (T.setFrames _).vm.method? m = s.vm.method? m from key m]
        exact hh
/-- the end of a method that may throw -/
def FrameEndX (first : State) (t : State) (L : List Loc) (k n : Nat) : Prop := first.WarmedH t.vm ∧ first.sameButNew ({ t with vm := first.vm } : State) L k n
def MetX (l : Launch) (y : MethodName) (ws : List Cond) (rm : Room) (Pc : Array Value → State → Prop) (Qc : Array Value → State → Outcome → State → Prop) (mc ms : Nat) (free : Addr → Prop) : Prop :=
  MetFree l y (headSpec ws rm) Pc (fun _ _ _ _ _ => True) (fun a st o t => Qc a st o t ∧ ∃ L, FrameEndX st t L mc ms ∧ ∀ q ∈ L, free q.base)
def MQX (below : List Frame) (Qc : Array Value → State → Outcome → State → Prop) (a : Array Value) (s : State) (mc ms : Nat) (free : Addr → Prop) : State → Prop := fun t =>
  ∃ o, t.status = .running ∧ Ended t below o ∧ Qc a s o t ∧ ∃ L, FrameEndX s t L mc ms ∧ ∀ q ∈ L, free q.base
/-- the thrown object: an object of the class C, somewhere -/
def gTh (C : String) (a : Nat) (t : State) : Prop := ∃ cell : Cell, t.heap[a]? = some cell ∧ cell.vm.isStatics = false ∧ t.vm.findClass C = some cell.cls
def gXQ (D : va_G) (s0 : State) (Po : Option Value → gH → Prop) (Px : String → gH → Prop) : Array Value → State → Outcome → State → Prop := fun a s o t =>
  gQ D s0 Po a s o t ∨ ∃ (x : Nat) (C : String) (h' : gH), o = .threw x ∧ Px C h' ∧ g_M D s0 h' t.heap ∧ gTh C x t
def gMetX (D : va_G) (s0 : State) (l : Launch) (y : MethodName) (bytes : ByteArray) (maxL : Nat) (ret : Option FieldType) (rm : Room) (av : List Value) (h : gH) (Po : Option Value → gH → Prop) (Px : String → gH → Prop) : Prop :=
  MetX l y [.code y bytes maxL ret] rm (va_Pc av (fun U => g_M D s0 h U.heap ∧ s0.WarmedH U.vm)) (gXQ D s0 Po Px) rm.cells rm.slots (fun q => s0.heap.size ≤ q)
theorem g_enterX {D : va_G} {s0 : State} {l : Launch} {y : MethodName} {bytes : ByteArray} {maxL : Nat} {ret : Option FieldType} {rm : Room} {av : List Value} {h : gH} {Po : Option Value → gH → Prop} {Px : String → gH → Prop} (B0 : gB D s0) (hy : plainFor y = true) (hlen : (lg_sl av).length ≤ maxL)
    (body : ∀ (p : Program) (e : Env) (s : State) (m : MethodId) (below : List Frame) (meth : Method) (c : Code) (ls : Array Slot), gX D s0 y.cls bytes maxL ret p s m meth c → c.exceptionTable.isEmpty = true → meth.name = y.name → lv_has ls maxL (lv_args 0 av) →
      G D s0 p l e rm s m av.toArray below meth c h 0 0 (MQX below (gXQ D s0 Po Px) av.toArray s rm.cells rm.slots (fun q => s0.heap.size ≤ q)) (F0 m 0 ls [])) : gMetX D s0 l y bytes maxL ret rm av h Po Px := by
  unfold gMetX MetX
  refine MetFree.of_bodySF (code := bytes) (maxLocals := maxL) (ret := ret) hy ?_ ?_
  · intro args s m h hn
    obtain ⟨meth, c, h1, h2, h3, h4, h5, h6, -, -⟩ := Cond.code_spec hn (atoms_spec (ws := [Cond.code y bytes maxL ret]) h _ List.mem_cons_self)
    exact ⟨meth, c, h1, h2, h3, h4, h5, h6⟩
  · intro p e s m args below meth c s₁ B hml hP _
    obtain ⟨rfl, hM, hW⟩ := hP
    have hh0 : s₁.heap = s.heap := by rw [B.state]; rfl
    have hl := lv_entry av hlen
    have hb := body p e s m below meth c _ ⟨B.exec, B.bytes, hml, B.returns, B.notSynchronized, findClass_of_methodNamed B.named, hW, B0⟩ (B.noHandlers (atoms_spec (ws := [Cond.code y bytes maxL ret]) B.pre _ List.mem_cons_self)) (name_of_methodNamed B.named B.method).1 hl s.heap [] 0 0 hM (fun q hq => by cases hq) (Nat.le_refl 0) (Nat.le_refl 0)
    rw [lg_entry_eq]
    obtain ⟨t, a1, o, b1, b2, b3⟩ := hb s₁ hh0 (Stand.of_body B)
    exact ⟨t, o, a1, b1, b2, b3⟩
theorem g_q {D : va_G} {s0 : State} {p : Program} {l : Launch} {e : Env} {R : Room} {s : State} {m : MethodId} {args : Array Value} {below : List Frame} {meth : Method} {c : Code} {h : gH} {k n : Nat} {Q Q' : State → Prop} {g : JFrame} (hq : ∀ t, Q t → Q' t) (kk : G D s0 p l e R s m args below meth c h k n Q g) : G D s0 p l e R s m args below meth c h k n Q' g :=
  fun H locs cells slots hM hl h1 h2 T hT X => by
    obtain ⟨t, a, b⟩ := kk H locs cells slots hM hl h1 h2 T hT X
    exact ⟨t, a, hq t b⟩
/-- a plain return of a method that may throw -/
theorem g_rx {D : va_G} {s0 : State} {p : Program} {l : Launch} {e : Env} {R : Room} {s : State} {m : MethodId} {args : Array Value} {below : List Frame} {meth : Method} {c : Code} {h : gH} {k n mc ms : Nat} {Po : Option Value → gH → Prop} {Px : String → gH → Prop} {g : JFrame} (kk : G D s0 p l e R s m args below meth c h k n (MQ below (gQ D s0 Po) args s mc ms (fun q => s0.heap.size ≤ q)) g) :
    G D s0 p l e R s m args below meth c h k n (MQX below (gXQ D s0 Po Px) args s mc ms (fun q => s0.heap.size ≤ q)) g :=
  g_q (fun t ⟨o, q1, q2, q3, L, q4, q5⟩ => ⟨o, q1, q2, Or.inl q3, L, q4.2, q5⟩) kk
/-- words that hang on the cells of statics -/
theorem g_lsAt {C n d : String} {A A' : Array Value} {s U : State} (h : (Cond.laysStatic C n d).before A s = true) (hW : s.vm.Alike U.vm) (hH : ∀ (q : Nat) (c : Cell), s.heap[q]? = some c → U.heap[q]? = some c) : (Cond.laysStatic C n d).before A' U = true := by
  have h1 : (Cond.laysStatic C n d).value A (s.setVm U.vm) none (s.setVm U.vm) [] = some true := by
    rw [Cond.value_setVm hW _ _ rfl]
    simpa [Cond.before, Cond.holds] using h
  simp only [Cond.before, Cond.holds, Cond.value] at h1 ⊢
  have e1 : (s.setVm U.vm).vm.findClass C = U.vm.findClass C := rfl
  have e2 : (s.setVm U.vm).fieldFound? C n d = U.fieldFound? C n d := rfl
  rw [e1, e2] at h1
  cases hc : U.vm.findClass C with
  | none => rw [hc] at h1; simp at h1
  | some c =>
    cases hf : U.fieldFound? C n d with
    | none => rw [hc, hf] at h1; simp at h1
    | some x =>
      obtain ⟨c', k, i, f⟩ := x
      rw [hc, hf] at h1
      simp only at h1 ⊢
      cases hs : k.statics with
      | none => rw [hs] at h1; simp at h1
      | some a =>
        rw [hs] at h1
        simp only [Option.bind_some] at h1 ⊢
        cases hq : (s.setVm U.vm).heap[a]? with
        | none => rw [hq] at h1; simp at h1
        | some cell =>
          rw [hq] at h1
          rw [hH a cell hq]
          simpa using h1
theorem g_rsAt {C n d : String} {A A' : Array Value} {s U : State} (h : (Cond.isRef (.static C n d)).before A s = true) (hW : s.vm.Alike U.vm) (hH : ∀ (q : Nat) (c : Cell), s.heap[q]? = some c → U.heap[q]? = some c) : (Cond.isRef (.static C n d)).before A' U = true := by
  have h1 : (Cond.isRef (.static C n d)).value A (s.setVm U.vm) none (s.setVm U.vm) [] = some true := by
    rw [Cond.value_setVm hW _ _ rfl]
    simpa [Cond.before, Cond.holds] using h
  simp only [Cond.before, Cond.holds, Cond.value, Term.eval] at h1 ⊢
  have e2 : (s.setVm U.vm).fieldNamed? C n d true = U.fieldNamed? C n d true := rfl
  rw [e2] at h1
  cases hf : U.fieldNamed? C n d true with
  | none => rw [hf] at h1; simp at h1
  | some x =>
    obtain ⟨c', k, sl⟩ := x
    rw [hf] at h1
    simp only [Option.bind_eq_bind, Option.bind_some] at h1 ⊢
    cases hs : k.statics with
    | none => rw [hs] at h1; simp at h1
    | some a =>
      rw [hs] at h1
      simp only [Option.bind_some] at h1 ⊢
      cases hq : (s.setVm U.vm).heap[a]? with
      | none => rw [hq] at h1; simp at h1
      | some cell =>
        rw [hq] at h1
        rw [hH a cell hq]
        simpa using h1
