/-! THE GHOST HEAP: a partial map from addresses to tagged cells, and a walk over it (G). A tag says what a cell is and whose it is; tag kind 0: a cell that was there before the law, never written. s0 is the state at the law's entry. -/
abbrev gE : Type := (Nat × Nat) × va_E
abbrev gH : Type := Nat → Option gE
def g_up (h : gH) (a : Nat) (x : gE) : gH := fun q => if q = a then some x else h q
theorem g_us {h : gH} {a : Nat} {x : gE} : g_up h a x a = some x := by simp [g_up]
theorem g_un {h : gH} {a b : Nat} {x : gE} (hn : b ≠ a) : g_up h a x b = h b := by simp [g_up, hn]
theorem g_ne {h : gH} {a b : Nat} {x y : gE} (ha : h a = some x) (hb : h b = some y) (ht : x.1.1 ≠ y.1.1) : a ≠ b := by
  intro e
  subst e
  cases ha.symm.trans hb
  exact ht rfl
theorem g_nz {h : gH} {a b : Nat} {x : gE} (ha : h a = some x) (hb : h b = none) : a ≠ b := by
  intro e
  subst e
  cases ha.symm.trans hb
theorem g_uk {h : gH} {a b : Nat} {x y z : gE} (hb : h b = some y) (ha : h a = some z) (ht : y.1.1 ≠ z.1.1) : g_up h a x b = some y := (g_un (g_ne hb ha ht)).trans hb
theorem g_uf {h : gH} {a b : Nat} {x y : gE} (hb : h b = some y) (ha : h a = none) : g_up h a x b = some y := (g_un (g_nz hb ha)).trans hb
theorem g_uu {h : gH} {a : Nat} {x y : gE} : g_up (g_up h a x) a y = g_up h a y := by
  funext q
  by_cases hq : q = a <;> simp [g_up, hq]
theorem g_id {h : gH} {a : Nat} {x : gE} (ha : h a = some x) : g_up h a x = h := by
  funext q
  by_cases hq : q = a
  · subst hq
    rw [g_us, ha]
  · rw [g_un hq]
def g_M (D : va_G) (s0 : State) (h : gH) (H : Heap) : Prop :=
  (∀ (a : Nat) (x : gE), h a = some x → va_at D vwCl (a, x.2) H ∧ (x.1.1 ≠ 0 → s0.heap.size ≤ a)) ∧ (∀ q : Nat, q < s0.heap.size → H[q]? = s0.heap[q]?) ∧ s0.heap.size ≤ H.size
theorem g_M.fresh {D : va_G} {s0 : State} {H : Heap} {h : gH} (hM : g_M D s0 h H) {a : Nat} (hs : H.size ≤ a) : h a = none := by
  cases hx : h a with
  | none => rfl
  | some x => exact absurd ((hM.1 a x hx).1.lt) (Nat.not_lt.mpr hs)
theorem g_M.set {D : va_G} {s0 : State} {H H1 : Heap} {h : gH} (hM : g_M D s0 h H) {a : Nat} {x y : gE} (ha : h a = some x) (ht : x.1.1 ≠ 0) (he : va_at D vwCl (a, y.2) H1) (hz : H1.size = H.size) (oq : ∀ q : Nat, q ≠ a → H1[q]? = H[q]?) : g_M D s0 (g_up h a y) H1 := by
  have hN := (hM.1 a x ha).2 ht
  refine ⟨fun b z hb => ?_, fun q hq => ?_, by rw [hz]; exact hM.2.2⟩
  · by_cases hba : b = a
    · subst hba
      rw [g_us] at hb
      cases hb
      exact ⟨he, fun _ => hN⟩
    · rw [g_un hba] at hb
      obtain ⟨h1, h2⟩ := hM.1 b z hb
      exact ⟨h1.kept (oq b hba), h2⟩
  · rw [oq q (fun e => by omega)]
    exact hM.2.1 q hq
theorem g_M.push {D : va_G} {s0 : State} {H H1 : Heap} {h : gH} (hM : g_M D s0 h H) {y : gE} (he : va_at D vwCl (H.size, y.2) H1) (hz : H1.size = H.size + 1) (oq : ∀ q : Nat, q < H.size → H1[q]? = H[q]?) : g_M D s0 (g_up h H.size y) H1 := by
  have h3 := hM.2.2
  refine ⟨fun b z hb => ?_, fun q hq => ?_, by omega⟩
  · by_cases hba : b = H.size
    · subst hba
      rw [g_us] at hb
      cases hb
      exact ⟨he, fun _ => h3⟩
    · rw [g_un hba] at hb
      obtain ⟨h1, h2⟩ := hM.1 b z hb
      exact ⟨h1.kept (oq b h1.lt), h2⟩
  · rw [oq q (by omega)]
    exact hM.2.1 q hq
/-- new cells that the ghost doesn't hold -/
theorem g_M.more {D : va_G} {s0 : State} {H H1 : Heap} {h : gH} (hM : g_M D s0 h H) (hz : H.size ≤ H1.size) (oq : ∀ q : Nat, q < H.size → H1[q]? = H[q]?) : g_M D s0 h H1 := by
  have h3 := hM.2.2
  refine ⟨fun b z hb => ?_, fun q hq => ?_, by omega⟩
  · obtain ⟨h1, h2⟩ := hM.1 b z hb
    exact ⟨h1.kept (oq b h1.lt), h2⟩
  · rw [oq q (by omega)]
    exact hM.2.1 q hq
theorem g_P {D : va_G} {s0 : State} {H : Heap} {h : gH} (hM : g_M D s0 h H) {a : Nat} {x : gE} (ha : h a = some x) : va_P D vwCl [(a, x.2)] H := by
  intro k q hk
  have hz : k < 1 := (List.getElem?_eq_some_iff.mp hk).1
  rw [show k = 0 by omega] at hk
  cases hk
  exact (hM.1 a x ha).1
/-- the words that stay true under warmer tables -/
def g_wk (w : Cond) : Bool := (w.onTables && w.keeps) || (match w with
  | .arrayClass _ => true
  | .fieldLinkNest .. => true
  | .methodLinkNest .. => true
  | .declares _ => true
  | .castable .. => true
  | .arrayOver (.object _) => true
  | _ => false)
theorem g_warm {w : Cond} (hw : g_wk w = true) {a a' : Array Value} {s U : State} (hW : s.WarmedH U.vm) (h : w.before a s = true) : w.before a' U = true := by
  unfold g_wk at hw
  rw [Bool.or_eq_true] at hw
  rcases hw with h1 | h1
  · exact word_at hW (Or.inl h1) h
  · split at h1
    · exact word_at hW (Or.inr ⟨_, rfl⟩) h
    · exact va_Nw.use rfl (va_Nw.warmF hW (va_Nw.of rfl h))
    · exact va_Nw.use rfl (va_Nw.warmM hW (va_Nw.of rfl h))
    · exact va_Nw.use rfl (va_Nw.warmD hW (va_Nw.of rfl h))
    · exact va_Nw.use rfl (va_Nw.warmC hW (va_Nw.of rfl h))
    · exact va_AO.use (va_AO.moved hW.alike (va_AO.of h))
    · exact absurd h1 (by decide)
def g_tys (D : va_G) : List (ClassId × FieldType) := [(D.1 100, .int), (D.1 101, .long), (D.1 102, .object "java/lang/Object")]
/-- what holds at the law's entry -/
def g_strs : List (Nat × String) := [(35, "there are 1024 blocks"), (53, "no such block"), (56, "bytes below 0"), (62, "gain not within -2^38 .. 2^38"), (71, "too many passes or bytes"), (83, "no such w"), (90, "no such step"), (104, "budget below NONE"), (106, "there are 64 layers"), (130, "no such layer")]
def g_stw : List Cond := [.isRef (.static "java/lang/Throwable" "UNASSIGNED_STACK" "[Ljava/lang/StackTraceElement;"), .isRef (.static "java/lang/Throwable" "SUPPRESSED_SENTINEL" "Ljava/util/List;"),
  .not (.castable "java/lang/IllegalArgumentException" "java/lang/IllegalStateException"), .not (.castable "java/lang/IndexOutOfBoundsException" "java/lang/IllegalStateException"), .not (.castable "java/lang/IllegalStateException" "java/lang/IllegalArgumentException"), .not (.castable "java/lang/IndexOutOfBoundsException" "java/lang/IllegalArgumentException"), .not (.castable "java/lang/IllegalStateException" "java/lang/IndexOutOfBoundsException"), .not (.castable "java/lang/IllegalArgumentException" "java/lang/IndexOutOfBoundsException")]
/-- .. of the JDK's statics, of class objects and texts. D.1 200: the empty array of ArrayList; D.1 201: the class object of Object[]; D.1 (300 + k): the text at entry k -/
def gB2 (D : va_G) (s0 : State) : Prop := va_Z "java/util/ArrayList" "DEFAULTCAPACITY_EMPTY_ELEMENTDATA" "[Ljava/lang/Object;" (.ref (D.1 200)) (fun q => s0.heap.size ≤ q) s0 s0.heap ∧ va_T (.object "java/lang/Object") (D.1 200) 0 (fun _ => .null) (fun q => s0.heap.size ≤ q) s0 s0.heap ∧
  va_Mi "[Ljava/lang/Object;" (D.1 201) s0 ∧ (∀ q ∈ g_strs, vk_R "LayerBudgets" q.1 q.2 (D.1 (300 + q.1)) s0) ∧ ∀ w ∈ g_stw, w.before #[] s0 = true
def gB (D : va_G) (s0 : State) : Prop := (∀ w ∈ lw_tbl, w.before #[] s0 = true) ∧ va_K D vwCl (g_tys D) s0 ∧ gB2 D s0
theorem g_lay : ∀ (ci : Nat) (q : vw_C), vwCl[ci]? = some q → ∀ w ∈ u_ws q.1 q.2.1 q.2.2, w ∈ lw_tbl ∧ g_wk w = true := by
  intro ci q hq
  match ci, hq with
  | 0, hq => cases hq; exact fun w hw => ⟨i_LB w hw, (show ∀ w ∈ u_ws R_LB F_LB 4, g_wk w = true by decide +kernel) w hw⟩
  | 1, hq => cases hq; exact fun w hw => ⟨i_BK w hw, (show ∀ w ∈ u_ws R_BK F_BK 7, g_wk w = true by decide +kernel) w hw⟩
  | 2, hq => cases hq; exact fun w hw => ⟨i_LY w hw, (show ∀ w ∈ u_ws R_LY F_LY 4, g_wk w = true by decide +kernel) w hw⟩
  | 3, hq => cases hq; exact fun w hw => ⟨i_AL w hw, (show ∀ w ∈ u_ws R_AL F_AL 3, g_wk w = true by decide +kernel) w hw⟩
  | 4, hq => cases hq; exact fun w hw => ⟨i_MD w hw, (show ∀ w ∈ u_ws R_MD F_MD 15, g_wk w = true by decide +kernel) w hw⟩
  | k + 5, hq => simp [vwCl] at hq
def g_ty : Nat → Nat → FieldType := fun ci => match ci with
  | 0 => t_LB
  | 1 => t_BK
  | 2 => t_LY
  | 3 => t_AL
  | _ => t_MD
theorem g_ty_ok : ∀ (ci : Nat) (q : vw_C), vwCl[ci]? = some q → ∀ k, k < q.2.2 → parseFieldDescriptor (q.2.1 k).2.2.1 = some (g_ty ci k) := by
  intro ci q hq
  match ci, hq with
  | 0, hq => cases hq; exact t_LB_ok
  | 1, hq => cases hq; exact t_BK_ok
  | 2, hq => cases hq; exact t_LY_ok
  | 3, hq => cases hq; exact t_AL_ok
  | 4, hq => cases hq; exact t_MD_ok
  | k + 5, hq => simp [vwCl] at hq
theorem g_nm : ∀ (ci : Nat) (q : vw_C), vwCl[ci]? = some q → ∀ a, a < q.2.2 → ∀ b, b < q.2.2 → a ≠ b → (q.2.1 a).2.1 ≠ (q.2.1 b).2.1 := by
  intro ci q hq
  match ci, hq with
  | 0, hq => cases hq; exact n_LB
  | 1, hq => cases hq; exact n_BK
  | 2, hq => cases hq; exact n_LY
  | 3, hq => cases hq; exact n_AL
  | 4, hq => cases hq; exact n_MD
  | k + 5, hq => simp [vwCl] at hq
/-- a method's body: its machine, code, tables -/
def gX (D : va_G) (s0 : State) (own : String) (cc : ByteArray) (nL : Nat) (ret : Option FieldType) (p : Program) (s : State) (m : MethodId) (meth : Method) (c : Code) : Prop :=
  p.tables.exec = Jvm.exec ∧ c.code = cc ∧ c.maxLocals = nL ∧ meth.sig.returnType = ret ∧ meth.locks = false ∧ s.vm.findClass own = some m.cls ∧ s0.WarmedH s.vm ∧ gB D s0
theorem gX.w {D : va_G} {s0 : State} {own : String} {cc : ByteArray} {nL : Nat} {ret : Option FieldType} {p : Program} {s : State} {m : MethodId} {meth : Method} {c : Code} (X : gX D s0 own cc nL ret p s m meth c) {args : Array Value} {w : Cond} (hw : w ∈ lw_tbl) (hk : g_wk w = true) : w.before args s = true := g_warm hk X.2.2.2.2.2.2.1 (X.2.2.2.2.2.2.2.1 w hw)
theorem gX.K {D : va_G} {s0 : State} {own : String} {cc : ByteArray} {nL : Nat} {ret : Option FieldType} {p : Program} {s : State} {m : MethodId} {meth : Method} {c : Code} (X : gX D s0 own cc nL ret p s m meth c) : va_K D vwCl (g_tys D) s := va_K.moved X.2.2.2.2.2.2.1.alike X.2.2.2.2.2.2.2.2.1
theorem gX.lay {D : va_G} {s0 : State} {own : String} {cc : ByteArray} {nL : Nat} {ret : Option FieldType} {p : Program} {s : State} {m : MethodId} {meth : Method} {c : Code} (X : gX D s0 own cc nL ret p s m meth c) {ci : Nat} {q : vw_C} (hc : vwCl[ci]? = some q) {args : Array Value} : ∀ w ∈ u_ws q.1 q.2.1 q.2.2, w.before args s = true := fun w hw => X.w (g_lay ci q hc w hw).1 (g_lay ci q hc w hw).2
