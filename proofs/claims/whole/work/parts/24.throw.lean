/-! THE CLASS'S OWN THROW: new, dup, ldc, invokespecial, athrow -/
def g_nms : List String := ["java/lang/RuntimeException", "java/lang/Exception"]
def g_hs : List Cond := [.laysStatic "java/lang/Throwable" "UNASSIGNED_STACK" "[Ljava/lang/StackTraceElement;", .laysStatic "java/lang/Throwable" "SUPPRESSED_SENTINEL" "Ljava/util/List;", .isRef (.static "java/lang/Throwable" "UNASSIGNED_STACK" "[Ljava/lang/StackTraceElement;"), .isRef (.static "java/lang/Throwable" "SUPPRESSED_SENTINEL" "Ljava/util/List;")]
def g_oaB (ic : Nat) (C : String) : Bool := (Bundle.ownAtoms "LayerBudgets" ic C g_nms).all (fun w => (decide (w ∈ lw_tbl) && g_wk w) || decide (w ∈ g_hs))
theorem g_oa_IS : g_oaB 37 "java/lang/IllegalStateException" = true := by decide +kernel
theorem g_oa_IA : g_oaB 55 "java/lang/IllegalArgumentException" = true := by decide +kernel
theorem g_oa_IX : g_oaB 92 "java/lang/IndexOutOfBoundsException" = true := by decide +kernel
theorem g_cellEq {c c' : Cell} (h1 : c' = { c with slots := c'.slots }) (h2 : c'.slots.size = c.slots.size) (h3 : ∀ i : Nat, c'.slots[i]? = c.slots[i]?) : c' = c := by
  have e : c'.slots = c.slots := Array.ext_getElem? h3
  rw [e] at h1
  exact h1
theorem g_noTr {l : Launch} {e : Env} (ha : l.admits e) (hf : l.flags = flags0) : e.platform.stackTraces = false := by
  rw [ha.platform]
  show l.stackTraces = false
  unfold Launch.stackTraces
  rw [hf]
  decide +kernel
set_option maxHeartbeats 4000000 in
theorem g_throw {D : va_G} {s0 : State} {p : Program} {l : Launch} {e : Env} {R : Room} {s : State} {m : MethodId} {args : Array Value} {below : List Frame} {meth : Method} {c : Code} {h : gH} {k n mc ms : Nat} {cc : ByteArray} {nL : Nat} {ret : Option FieldType} {pc : Nat} {ls : Array Slot} {Po : Option Value → gH → Prop} {Px : String → gH → Prop}
    (X : gX D s0 "LayerBudgets" cc nL ret p s m meth c) (hfl : l.flags = flags0) (hxt : c.exceptionTable.isEmpty = true) {C tx : String} {i1 i2 i3 : Nat} (hoa : g_oaB i3 C = true) (hfit : Bundle.fit C = true) (w1 : Cond.classLink "LayerBudgets" i1 C ∈ lw_tbl) (w2 : Cond.instantiable C 6 ∈ lw_tbl) (w3 : Cond.initialized C ∈ lw_tbl) (hstr : (i2, tx) ∈ g_strs)
    (hp : Px C h) (hsz : ls.size = nL) (hfr : 5 < R.frames) (hlo : 82 ≤ R.locals) (hkc : k + 1 ≤ R.cells ∧ n + 6 ≤ R.slots) (hk : k + 1 ≤ mc ∧ n + 6 ≤ ms)
    (d0 : decode cc pc = .ok (.new i1, 3)) (d1 : decode cc (pc + 3) = .ok (.dup, 1)) (d2 : decode cc (pc + 3 + 1) = .ok (.ldc i2, 2)) (d3 : decode cc (pc + 3 + 1 + 2) = .ok (.invokespecial i3, 3)) (d4 : decode cc (pc + 3 + 1 + 2 + 3) = .ok (.athrow, 1)) :
    G D s0 p l e R s m args below meth c h k n (MQX below (gXQ D s0 Po Px) args s mc ms (fun q => s0.heap.size ≤ q)) (F0 m pc ls []) := by
  intro H locs cells slots hM hl h1 h2 T hT Y
  have Z := gs_rebase Y (R' := { frames := R.frames, cells := 1, slots := 6, locals := R.locals }) (Nat.le_refl _) (Nat.le_refl _) (show cells + 1 ≤ R.cells by omega) (show slots + 6 ≤ R.slots by omega)
  generalize hs' : T.setFrames (.invoking m args :: below) = s' at Z
  have hvm : s'.vm = T.vm := by rw [← hs']; rfl
  have hhp : s'.heap = T.heap := by rw [← hs']; rfl
  have X' : gX D s0 "LayerBudgets" cc nL ret p s' m meth c := ⟨X.1, X.2.1, X.2.2.1, X.2.2.2.1, X.2.2.2.2.1, by rw [hvm, Y.warmed.alike.findClass]; exact X.2.2.2.2.2.1, by rw [hvm]; exact State.WarmedH.trans X.2.2.2.2.2.2.1 Y.warmed, X.2.2.2.2.2.2.2⟩
  have hW' : s0.WarmedH s'.vm := X'.2.2.2.2.2.2.1
  have hB := X.2.2.2.2.2.2.2
  have hheap : ∀ (q : Nat) (c : Cell), s0.heap[q]? = some c → s'.heap[q]? = some c := fun q c hq => by
    rw [hhp, hT, hM.2.1 q (Array.getElem?_eq_some_iff.mp hq).1]
    exact hq
  have hat : ∀ w ∈ Bundle.ownAtoms "LayerBudgets" i3 C g_nms, w.before args s' = true := by
    intro w hw
    have hq := List.all_eq_true.mp hoa w hw
    rw [Bool.or_eq_true, Bool.and_eq_true, decide_eq_true_eq, decide_eq_true_eq] at hq
    rcases hq with ⟨a1, a2⟩ | a3
    · exact X'.w a1 a2
    · simp only [g_hs, List.mem_cons, List.not_mem_nil, or_false] at a3
      rcases a3 with rfl | rfl | rfl | rfl
      · exact g_lsAt (hB.1 _ tw_147) hW'.alike hheap
      · exact g_lsAt (hB.1 _ tw_149) hW'.alike hheap
      · exact g_rsAt (hB.2.2.2.2.2.2 _ (by simp [g_stw])) hW'.alike hheap
      · exact g_rsAt (hB.2.2.2.2.2.2 _ (by simp [g_stw])) hW'.alike hheap
  have hmsg : vk_R "LayerBudgets" i2 tx (D.1 (300 + i2)) s' := vk_R.warm hW' (hB.2.2.2.2.2.1 _ hstr)
  have K : W p l e ({ frames := R.frames, cells := 1, slots := 6, locals := R.locals } : Room) s' m args below meth c T.heap [] 0 0 (fun t => t.status = .running ∧ ∃ x, Ended t below (.threw x) ∧ s'.WarmedH t.vm ∧ s'.sameButNew ({ t with vm := s'.vm } : State) [] 1 6 ∧ gTh C x t) (F0 m pc ls []) := by
    refine W.newc X'.1 X'.2.1 X'.2.2.2.2.2.1 (X'.w w1 rfl) (X'.w w2 rfl) (X'.w w3 rfl) rfl d0 (Nat.le_refl 1) (Nat.le_refl 6) fun cC kC f1 f2 f3 f4 => ?_
    refine lv_dup X'.1 X'.2.1 d1 rfl ?_
    refine va_ldcS X'.1 X'.2.1 X'.2.2.2.2.2.1 hmsg d2 ?_
    intro T2 hT2 Y2
    obtain ⟨U, st, hrun, hend, hWU, hsame, ce, hce, hoc⟩ := Y2.ctorThrowS (cls := C) (names := g_nms) (ic := i3) X'.1 (g_noTr Y.admits hfl) X'.2.2.2.2.2.1 hfit (by decide +kernel) hat (fun x hx => by cases hx) (a := T.heap.size) f1 f2 (by rw [hT2]; exact Array.getElem?_push_size) (by rw [hhp]; exact Nat.le_refl _) (msg := .ref (D.1 (300 + i2))) rfl (g := F0 m (pc + 3 + 1 + 2) ls [.ref (D.1 (300 + i2)), .ref T.heap.size, .ref T.heap.size]) rfl (by rw [X.2.2.1]; exact hsz) rfl rfl (rest := []) rfl (by rw [X.2.1]; exact d3) (by rw [X.2.1]; exact d4) (fun x hx => by
        have he : c.exceptionTable = #[] := by simpa using hxt
        rw [he] at hx
        cases hx) (show 2 + 3 < R.frames by omega) (show 2 * 0 + (1 + 0) + (13 * (2 + 1) + 42) ≤ R.locals by omega) X.2.2.2.2.1
    exact ⟨U, st, hrun, _, hend, hWU, hsame, ce, hce, by rw [hoc.vm]; rfl, by rw [hWU.alike.findClass]; exact hoc.cls⟩
  obtain ⟨t, st, hrun, x, hend, hw, hsame, hth⟩ := K T rfl Z
  have hsame' : T.sameButNew (t.setVm T.vm) [] 1 6 := by
    rw [← hs'] at hsame
    exact gs_base.mp hsame
  have hcells : ∀ (q : Nat) (c : Cell), T.heap[q]? = some c → t.heap[q]? = some c := fun q c hq => by
    obtain ⟨c', e1, e2, e3, e4⟩ := hsame'.2.2.2.2.2 q c hq
    have e1' : t.heap[q]? = some c' := e1
    rw [e1', g_cellEq e2 e3 (fun i => e4 i (fun z => by cases z))]
  have hz : T.heap.size ≤ t.heap.size := hsame'.2.1
  have hfin := (Y.same.trans (hsame'.setVm s.vm)).mono (show cells + 1 ≤ mc by omega) (show slots + 6 ≤ ms by omega)
  rw [List.append_nil] at hfin
  refine ⟨t, st, .threw x, hrun, hend, Or.inr ⟨x, C, h, rfl, hp, ?_, hth⟩, locs, ⟨State.WarmedH.trans Y.warmed (by rw [← hs'] at hw; exact hw), hfin⟩, hl⟩
  subst hT
  exact hM.more hz (fun q hq => by rw [hcells q _ (Array.getElem?_eq_getElem hq)]; exact (Array.getElem?_eq_getElem hq).symm)
