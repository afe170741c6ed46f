/-! contracts over the ghost heap, calls, ends -/
def gQ (D : va_G) (s0 : State) (Po : Option Value → gH → Prop) : Array Value → State → Outcome → State → Prop := fun _ _ o t => ∃ (v : Option Value) (h' : gH), o = .returned v ∧ Po v h' ∧ g_M D s0 h' t.heap
def gMet (D : va_G) (s0 : State) (l : Launch) (y : MethodName) (bytes : ByteArray) (maxL : Nat) (ret : Option FieldType) (rm : Room) (av : List Value) (h : gH) (Po : Option Value → gH → Prop) : Prop :=
  Met l y [.code y bytes maxL ret] rm (va_Pc av (fun U => g_M D s0 h U.heap ∧ s0.WarmedH U.vm)) (gQ D s0 Po) rm.cells rm.slots (fun q => s0.heap.size ≤ q)
theorem gMet.mono {D : va_G} {s0 : State} {l : Launch} {y : MethodName} {bytes : ByteArray} {maxL : Nat} {ret : Option FieldType} {rm : Room} {av : List Value} {h : gH} {Po Po' : Option Value → gH → Prop} (hM : gMet D s0 l y bytes maxL ret rm av h Po) (hp : ∀ v h', Po v h' → Po' v h') : gMet D s0 l y bytes maxL ret rm av h Po' := by
  intro p e ha hc hk s m args below hf happ hP hK
  obtain ⟨k, o, h1, h2, h3, ⟨v, h', e1, e2, e3⟩, h5⟩ := hM p e ha hc hk s m args below hf happ hP hK
  exact ⟨k, o, h1, h2, h3, ⟨v, h', e1, hp _ _ e2, e3⟩, h5⟩
theorem g_blind {D : va_G} {s0 : State} {av : List Value} {h : gH} : FrameBlind (va_Pc av (fun U => g_M D s0 h U.heap ∧ s0.WarmedH U.vm)) := fun _ _ _ _ q => q
theorem g_enter {D : va_G} {s0 : State} {l : Launch} {y : MethodName} {bytes : ByteArray} {maxL : Nat} {ret : Option FieldType} {rm : Room} {av : List Value} {h : gH} {Po : Option Value → gH → Prop} (B0 : gB D s0) (hy : plainFor y = true) (hlen : (lg_sl av).length ≤ maxL)
    (body : ∀ (p : Program) (e : Env) (s : State) (m : MethodId) (below : List Frame) (meth : Method) (c : Code) (ls : Array Slot), gX D s0 y.cls bytes maxL ret p s m meth c → meth.name = y.name → lv_has ls maxL (lv_args 0 av) →
      G D s0 p l e rm s m av.toArray below meth c h 0 0 (MQ below (gQ D s0 Po) av.toArray s rm.cells rm.slots (fun q => s0.heap.size ≤ q)) (F0 m 0 ls [])) : gMet D s0 l y bytes maxL ret rm av h Po := by
  refine va_MetF (cc := bytes) (maxL := maxL) (ret := ret) hy rfl ?_
  intro p e s m args below meth c s₁ B hml hv
  obtain ⟨rfl, hM, hW⟩ := hv
  have hl := lv_entry av hlen
  rw [lg_entry_eq]
  exact body p e s m below meth c _ ⟨B.exec, B.bytes, hml, B.returns, B.notSynchronized, findClass_of_methodNamed B.named, hW, B0⟩ (name_of_methodNamed B.named B.method).1 hl s.heap [] 0 0 hM (fun q hq => by cases hq) (Nat.le_refl 0) (Nat.le_refl 0)
section GC
variable {D : va_G} {s0 : State} {p : Program} {l : Launch} {e : Env} {R : Room} {s : State} {m : MethodId} {args : Array Value} {below : List Frame} {meth : Method} {c : Code} {h : gH} {k n : Nat} {Q : State → Prop}
variable {own : String} {cc : ByteArray} {nL : Nat} {ret : Option FieldType} {pc : Nat} {ls : Array Slot} {rest st0 : List Value} {a : Nat} {Po : Option Value → gH → Prop} {mc ms : Nat}
theorem g_iret (X : gX D s0 own cc nL (some .int) p s m meth c) {v : Int32} (hp : Po (some (.int v)) h) (hk : k ≤ mc) (hn : n ≤ ms) (hdg : decode cc pc = .ok (.ireturn, 1)) : G D s0 p l e R s m args below meth c h k n (MQ below (gQ D s0 Po) args s mc ms (fun q => s0.heap.size ≤ q)) (F0 m pc ls [.int v]) :=
  fun H locs cells slots hM hl h1 h2 => W.widen (k := mc) (n := ms) (Nat.le_trans h1 hk) (Nat.le_trans h2 hn) (W.iret X.1 X.2.1 X.2.2.2.1 (fun t ht hW => ⟨_, h, rfl, hp, by rw [ht]; exact hM⟩) hl hdg X.2.2.2.2.1)
theorem g_zret (X : gX D s0 own cc nL (some .boolean) p s m meth c) {v : Int32} (hz : narrow .boolean (.int v) = .int v) (hp : Po (some (.int v)) h) (hk : k ≤ mc) (hn : n ≤ ms) (hdg : decode cc pc = .ok (.ireturn, 1)) : G D s0 p l e R s m args below meth c h k n (MQ below (gQ D s0 Po) args s mc ms (fun q => s0.heap.size ≤ q)) (F0 m pc ls [.int v]) :=
  fun H locs cells slots hM hl h1 h2 => W.widen (k := mc) (n := ms) (Nat.le_trans h1 hk) (Nat.le_trans h2 hn) (W.zret X.1 X.2.1 X.2.2.2.1 hz (fun t ht hW => ⟨_, h, rfl, hp, by rw [ht]; exact hM⟩) hl hdg X.2.2.2.2.1)
theorem g_lret (X : gX D s0 own cc nL (some .long) p s m meth c) {v : Int64} (hp : Po (some (.long v)) h) (hk : k ≤ mc) (hn : n ≤ ms) (hdg : decode cc pc = .ok (.lreturn, 1)) : G D s0 p l e R s m args below meth c h k n (MQ below (gQ D s0 Po) args s mc ms (fun q => s0.heap.size ≤ q)) (F0 m pc ls [.long v]) :=
  fun H locs cells slots hM hl h1 h2 => W.widen (k := mc) (n := ms) (Nat.le_trans h1 hk) (Nat.le_trans h2 hn) (W.lret X.1 X.2.1 X.2.2.2.1 (fun t ht hW => ⟨_, h, rfl, hp, by rw [ht]; exact hM⟩) hl hdg X.2.2.2.2.1)
theorem g_vret (X : gX D s0 own cc nL none p s m meth c) (hp : Po none h) (hk : k ≤ mc) (hn : n ≤ ms) (hdg : decode cc pc = .ok (.return_, 1)) : G D s0 p l e R s m args below meth c h k n (MQ below (gQ D s0 Po) args s mc ms (fun q => s0.heap.size ≤ q)) (F0 m pc ls []) :=
  fun H locs cells slots hM hl h1 h2 => W.widen (k := mc) (n := ms) (Nat.le_trans h1 hk) (Nat.le_trans h2 hn) (W.vret X.1 X.2.1 X.2.2.2.1 (fun t ht hW => ⟨_, h, rfl, hp, by rw [ht]; exact hM⟩) hl hdg X.2.2.2.2.1)
theorem g_aret {rt : FieldType} (X : gX D s0 own cc nL (some rt) p s m meth c) (hrt : (∃ n, rt = .object n) ∨ ∃ t, rt = .array t) {r : Option Nat} (hp : Po (some (va_rf r)) h) (hk : k ≤ mc) (hn : n ≤ ms) (hdg : decode cc pc = .ok (.areturn, 1)) : G D s0 p l e R s m args below meth c h k n (MQ below (gQ D s0 Po) args s mc ms (fun q => s0.heap.size ≤ q)) (F0 m pc ls [va_rf r]) :=
  fun H locs cells slots hM hl h1 h2 => W.widen (k := mc) (n := ms) (Nat.le_trans h1 hk) (Nat.le_trans h2 hn) (W.aret X.1 X.2.1 X.2.2.2.1 hrt (va_rf_or r) (fun t ht hW => ⟨_, h, rfl, hp, by rw [ht]; exact hM⟩) hl hdg X.2.2.2.2.1)
/-- behind a call -/
theorem g_back {A : Array Value} {rm : Room} (hr : ∀ (H : Heap) (locs : List Loc) (cells slots : Nat), g_M D s0 h H → cells ≤ k → slots ≤ n → va_Run p l e R s m args below meth c H locs cells slots rm.cells rm.slots (F0 m pc ls st0) rest (gQ D s0 Po A) (fun q => s0.heap.size ≤ q))
    (kk : ∀ (v : Option Value) (h' : gH), Po v h' → G D s0 p l e R s m args below meth c h' (k + rm.cells) (n + rm.slots) Q (F0 m (pc + 3) ls (v.toList ++ rest))) : G D s0 p l e R s m args below meth c h k n Q (F0 m pc ls st0) := by
  intro H locs cells slots hM hl h1 h2 T hT X
  obtain ⟨v, st₀, t, T', L, h0, X', hL, e1, e2, ⟨v', h', hv, hp, hM'⟩, st⟩ := hr H locs cells slots hM h1 h2 T hT X
  cases hv
  obtain ⟨t2, a1, b1⟩ := kk _ h' hp t.heap (locs ++ L) (cells + rm.cells) (slots + rm.slots) hM' (fun q hq => by
    rcases List.mem_append.mp hq with h | h
    · exact hl q h
    · exact hL q h) (Nat.add_le_add_right h1 _) (Nat.add_le_add_right h2 _) T' e1 X'
  exact ⟨t2, st t2 a1, b1⟩
/-- what a call asks of the words and of the room -/
abbrev g_cw (R : Room) (y : MethodName) (bytes : ByteArray) (maxL : Nat) (ry : Option FieldType) (rm : Room) (na : Nat) : Prop :=
  (Cond.code y bytes maxL ry ∈ lw_tbl ∧ Cond.initialized y.cls ∈ lw_tbl) ∧ (y.cls ≠ "java/lang/invoke/MethodHandle" ∧ y.cls ≠ "java/lang/invoke/VarHandle" ∧ (parseMethodDescriptor y.desc).map (fun d => d.parameters.length) = some na) ∧ rm.frames + 1 ≤ R.frames ∧ 8 + (maxL + 11) + rm.locals ≤ R.locals
theorem g_cwB (X : gX D s0 own cc nL ret p s m meth c) {y : MethodName} {bytes : ByteArray} {maxL na index : Nat} {ry : Option FieldType} {rm : Room} (w : g_cw R y bytes maxL ry rm na) (hlink : Cond.methodLink own index y ∈ lw_tbl) : CallB R s args own index y bytes maxL ry [.code y bytes maxL ry] rm rm.cells rm.slots na := by
  obtain ⟨⟨w1, w2⟩, ⟨d1, d2, d3⟩, r1, r2⟩ := w
  refine ⟨rfl, rfl, r1, r2, fun w hw a' U hW => ?_, List.mem_cons_self, X.w w1 rfl, X.w w2 rfl, ⟨d1, d2⟩, fun sig hs => ?_, X.w hlink rfl⟩
  · rw [List.mem_singleton.mp hw]
    exact g_warm rfl hW (X.w (args := args) w1 rfl)
  · rw [hs] at d3
    exact (Option.some.inj d3).symm
theorem g_cwN (X : gX D s0 own cc nL ret p s m meth c) {y : MethodName} {host : String} {bytes : ByteArray} {maxL na index : Nat} {ry : Option FieldType} {rm : Room} (w : g_cw R y bytes maxL ry rm na) (hlink : Cond.methodLinkNest own index y host ∈ lw_tbl) : va_CN R s args own index y host bytes maxL ry [.code y bytes maxL ry] rm rm.cells rm.slots na := by
  obtain ⟨⟨w1, w2⟩, ⟨d1, d2, d3⟩, r1, r2⟩ := w
  refine ⟨⟨rfl, rfl, r1, r2, fun w hw a' U hW => ?_, List.mem_cons_self⟩, X.w w1 rfl, X.w w2 rfl, ⟨d1, d2⟩, fun sig hs => ?_, X.w hlink rfl⟩
  · rw [List.mem_singleton.mp hw]
    exact g_warm rfl hW (X.w (args := args) w1 rfl)
  · rw [hs] at d3
    exact (Option.some.inj d3).symm
theorem g_rm {st : List Value} (hr : (st.map fun v => v.category).sum ≤ 8) : 2 * (F0 m pc ls st0).monitorRoom + (st.map fun v => v.category).sum ≤ 8 := by
  show 2 * 0 + _ ≤ 8
  omega
theorem g_callS (X : gX D s0 own cc nL ret p s m meth c) {y : MethodName} {bytes : ByteArray} {maxL index na : Nat} {ry : Option FieldType} {rm : Room} {As : List Value} (hM : gMet D s0 l y bytes maxL ry rm As h Po) (hst : st0 = As.reverse ++ rest) (w : g_cw R y bytes maxL ry rm na) (hlink : Cond.methodLink own index y ∈ lw_tbl) (hstat : Cond.static y ∈ lw_tbl)
    (hn : As.length = na) (hsz : ls.size = nL) (hr : (rest.map fun v => v.category).sum ≤ 8) (hf : k + rm.cells ≤ R.cells ∧ n + rm.slots ≤ R.slots) (hdg : decode cc pc = .ok (.invokestatic index, 3))
    (kk : ∀ (v : Option Value) (h' : gH), Po v h' → G D s0 p l e R s m args below meth c h' (k + rm.cells) (n + rm.slots) Q (F0 m (pc + 3) ls (v.toList ++ rest))) : G D s0 p l e R s m args below meth c h k n Q (F0 m pc ls st0) :=
  g_back (A := As.toArray) (fun H locs cells slots hG h1 h2 => va_runS (Ts := []) ⟨X.1, X.2.1, X.2.2.1, X.2.2.2.2.2.1, fun _ h => by cases h⟩ hM ⟨g_cwB X w hlink, X.w hstat rfl⟩ ⟨g_blind, fun U hU hW => ⟨rfl, by rw [hU]; exact hG, State.WarmedH.trans X.2.2.2.2.2.2.1 hW⟩⟩ rfl hn hsz hst (g_rm hr) hdg ⟨by omega, by omega⟩) kk
theorem g_callSN (X : gX D s0 own cc nL ret p s m meth c) {y : MethodName} {host : String} {bytes : ByteArray} {maxL index na : Nat} {ry : Option FieldType} {rm : Room} {As : List Value} (hM : gMet D s0 l y bytes maxL ry rm As h Po) (hst : st0 = As.reverse ++ rest) (w : g_cw R y bytes maxL ry rm na) (hlink : Cond.methodLinkNest own index y host ∈ lw_tbl) (hstat : Cond.static y ∈ lw_tbl)
    (hn : As.length = na) (hsz : ls.size = nL) (hr : (rest.map fun v => v.category).sum ≤ 8) (hf : k + rm.cells ≤ R.cells ∧ n + rm.slots ≤ R.slots) (hdg : decode cc pc = .ok (.invokestatic index, 3))
    (kk : ∀ (v : Option Value) (h' : gH), Po v h' → G D s0 p l e R s m args below meth c h' (k + rm.cells) (n + rm.slots) Q (F0 m (pc + 3) ls (v.toList ++ rest))) : G D s0 p l e R s m args below meth c h k n Q (F0 m pc ls st0) :=
  g_back (A := As.toArray) (fun H locs cells slots hG h1 h2 => va_runSN (Ts := []) ⟨X.1, X.2.1, X.2.2.1, X.2.2.2.2.2.1, fun _ h => by cases h⟩ hM ⟨g_cwN X w hlink, X.w hstat rfl, trivial⟩ ⟨g_blind, fun U hU hW => ⟨rfl, by rw [hU]; exact hG, State.WarmedH.trans X.2.2.2.2.2.2.1 hW⟩⟩ rfl hn hsz hst (g_rm hr) hdg ⟨by omega, by omega⟩) kk
theorem g_callV (X : gX D s0 own cc nL ret p s m meth c) {y : MethodName} {bytes : ByteArray} {maxL index na b ci : Nat} {ry : Option FieldType} {rm : Room} {As : List Value} {t : Nat × Nat} {fs : List Value} {q : vw_C} (hM : gMet D s0 l y bytes maxL ry rm (.ref b :: As) h Po) (hst : st0 = As.reverse ++ .ref b :: rest) (hbb : h b = some (t, .inr (ci, fs))) (hc : vwCl[ci]? = some q) (w : g_cw R y bytes maxL ry rm na) (hlink : Cond.methodLink own index y ∈ lw_tbl) (hinst : Cond.instanceMethod y ∈ lw_tbl) (hsel : Cond.selects q.1 y y ∈ lw_tbl)
    (hn : As.length = na) (hsz : ls.size = nL) (hr : (rest.map fun v => v.category).sum ≤ 8) (hf : k + rm.cells ≤ R.cells ∧ n + rm.slots ≤ R.slots) (hdg : decode cc pc = .ok (.invokevirtual index, 3))
    (kk : ∀ (v : Option Value) (h' : gH), Po v h' → G D s0 p l e R s m args below meth c h' (k + rm.cells) (n + rm.slots) Q (F0 m (pc + 3) ls (v.toList ++ rest))) : G D s0 p l e R s m args below meth c h k n Q (F0 m pc ls st0) :=
  g_back (A := (Value.ref b :: As).toArray) (fun H locs cells slots hG h1 h2 => va_runV (Ts := []) (C := q.1) ⟨X.1, X.2.1, X.2.2.1, X.2.2.2.2.2.1, fun _ h => by cases h⟩ hM ⟨g_cwB X w hlink, X.w hinst rfl, X.w hsel rfl⟩ ⟨g_blind, va_recv X.K (g_P hG hbb) hc (q0 := 0) rfl, fun U hU hW => ⟨rfl, by rw [hU]; exact hG, State.WarmedH.trans X.2.2.2.2.2.2.1 hW⟩⟩ rfl hn hsz hst (g_rm hr) hdg ⟨by omega, by omega⟩) kk
theorem g_callVN (X : gX D s0 own cc nL ret p s m meth c) {y : MethodName} {host : String} {bytes : ByteArray} {maxL index na b ci : Nat} {ry : Option FieldType} {rm : Room} {As : List Value} {t : Nat × Nat} {fs : List Value} {q : vw_C} (hM : gMet D s0 l y bytes maxL ry rm (.ref b :: As) h Po) (hst : st0 = As.reverse ++ .ref b :: rest) (hbb : h b = some (t, .inr (ci, fs))) (hc : vwCl[ci]? = some q) (w : g_cw R y bytes maxL ry rm na) (hlink : Cond.methodLinkNest own index y host ∈ lw_tbl) (hinst : Cond.instanceMethod y ∈ lw_tbl) (hsel : Cond.selects q.1 y y ∈ lw_tbl)
    (hn : As.length = na) (hsz : ls.size = nL) (hr : (rest.map fun v => v.category).sum ≤ 8) (hf : k + rm.cells ≤ R.cells ∧ n + rm.slots ≤ R.slots) (hdg : decode cc pc = .ok (.invokevirtual index, 3))
    (kk : ∀ (v : Option Value) (h' : gH), Po v h' → G D s0 p l e R s m args below meth c h' (k + rm.cells) (n + rm.slots) Q (F0 m (pc + 3) ls (v.toList ++ rest))) : G D s0 p l e R s m args below meth c h k n Q (F0 m pc ls st0) :=
  g_back (A := (Value.ref b :: As).toArray) (fun H locs cells slots hG h1 h2 => va_runVN (Ts := []) (C := q.1) ⟨X.1, X.2.1, X.2.2.1, X.2.2.2.2.2.1, fun _ h => by cases h⟩ hM ⟨g_cwN X w hlink, X.w hinst rfl, X.w hsel rfl⟩ ⟨g_blind, va_recv X.K (g_P hG hbb) hc (q0 := 0) rfl, fun U hU hW => ⟨rfl, by rw [hU]; exact hG, State.WarmedH.trans X.2.2.2.2.2.2.1 hW⟩⟩ rfl hn hsz hst (g_rm hr) hdg ⟨by omega, by omega⟩) kk
theorem g_callI (X : gX D s0 own cc nL ret p s m meth c) {y : MethodName} {bytes : ByteArray} {maxL index na b : Nat} {rm : Room} {As : List Value} (hM : gMet D s0 l y bytes maxL none rm (.ref b :: As) h Po) (hst : st0 = As.reverse ++ .ref b :: rest) (hy1 : y.name = "<init>") (w : g_cw R y bytes maxL none rm na) (hlink : Cond.methodLink own index y ∈ lw_tbl) (hinst : Cond.instanceMethod y ∈ lw_tbl)
    (hn : As.length = na) (hsz : ls.size = nL) (hr : (rest.map fun v => v.category).sum ≤ 8) (hf : k + rm.cells ≤ R.cells ∧ n + rm.slots ≤ R.slots) (hdg : decode cc pc = .ok (.invokespecial index, 3))
    (kk : ∀ (v : Option Value) (h' : gH), Po v h' → G D s0 p l e R s m args below meth c h' (k + rm.cells) (n + rm.slots) Q (F0 m (pc + 3) ls (v.toList ++ rest))) : G D s0 p l e R s m args below meth c h k n Q (F0 m pc ls st0) :=
  g_back (A := (Value.ref b :: As).toArray) (fun H locs cells slots hG h1 h2 => va_runI (Ts := []) ⟨X.1, X.2.1, X.2.2.1, X.2.2.2.2.2.1, fun _ h => by cases h⟩ hM ⟨g_cwB X w hlink, hy1, X.w hinst rfl⟩ ⟨g_blind, fun U hU hW => ⟨rfl, by rw [hU]; exact hG, State.WarmedH.trans X.2.2.2.2.2.2.1 hW⟩⟩ rfl hn hsz hst (g_rm hr) hdg ⟨by omega, by omega⟩) kk
theorem g_callIN (X : gX D s0 own cc nL ret p s m meth c) {y : MethodName} {host : String} {bytes : ByteArray} {maxL index na b : Nat} {rm : Room} {As : List Value} (hM : gMet D s0 l y bytes maxL none rm (.ref b :: As) h Po) (hst : st0 = As.reverse ++ .ref b :: rest) (hy1 : y.name = "<init>") (w : g_cw R y bytes maxL none rm na) (hlink : Cond.methodLinkNest own index y host ∈ lw_tbl) (hinst : Cond.instanceMethod y ∈ lw_tbl)
    (hn : As.length = na) (hsz : ls.size = nL) (hr : (rest.map fun v => v.category).sum ≤ 8) (hf : k + rm.cells ≤ R.cells ∧ n + rm.slots ≤ R.slots) (hdg : decode cc pc = .ok (.invokespecial index, 3))
    (kk : ∀ (v : Option Value) (h' : gH), Po v h' → G D s0 p l e R s m args below meth c h' (k + rm.cells) (n + rm.slots) Q (F0 m (pc + 3) ls (v.toList ++ rest))) : G D s0 p l e R s m args below meth c h k n Q (F0 m pc ls st0) :=
  g_back (A := (Value.ref b :: As).toArray) (fun H locs cells slots hG h1 h2 => va_runIN (Ts := []) ⟨X.1, X.2.1, X.2.2.1, X.2.2.2.2.2.1, fun _ h => by cases h⟩ hM ⟨g_cwN X w hlink, hy1, X.w hinst rfl⟩ ⟨g_blind, fun U hU hW => ⟨rfl, by rw [hU]; exact hG, State.WarmedH.trans X.2.2.2.2.2.2.1 hW⟩⟩ rfl hn hsz hst (g_rm hr) hdg ⟨by omega, by omega⟩) kk
/-- the first call of a constructor -/
theorem g_obj (X : gX D s0 own cc nL ret p s m meth c) {index : Nat} (hlink : Cond.methodLink own index objectInit ∈ lw_tbl) (hsz : ls.size = nL) (hdg : decode cc pc = .ok (.invokespecial index, 3)) (hfr : 1 ≤ R.frames) (hlo : (rest.map fun v => v.category).sum + 12 ≤ R.locals)
    (kk : G D s0 p l e R s m args below meth c h k n Q (F0 m (pc + 3) ls rest)) : G D s0 p l e R s m args below meth c h k n Q (F0 m pc ls (.ref a :: rest)) :=
  fun H locs cells slots hM hl h1 h2 => W.objInit X.1 X.2.1 X.2.2.2.2.2.1 (X.w hlink rfl) (X.w tw_27 rfl) (X.w tw_28 rfl) rfl (by rw [X.2.2.1]; exact hsz) rfl hdg hfr (by show 2 * 0 + _ + _ ≤ _; omega) (kk H locs cells slots hM hl h1 h2)
end GC
