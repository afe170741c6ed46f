/-! THE WALK OVER THE GHOST HEAP: rows -/
def G (D : va_G) (s0 : State) (p : Program) (l : Launch) (e : Env) (R : Room) (s : State) (m : MethodId) (args : Array Value) (below : List Frame) (meth : Method) (c : Code) (h : gH) (k n : Nat) (Q : State → Prop) (g : JFrame) : Prop :=
  ∀ (H : Heap) (locs : List Loc) (cells slots : Nat), g_M D s0 h H → (∀ q ∈ locs, s0.heap.size ≤ q.base) → cells ≤ k → slots ≤ n → W p l e R s m args below meth c H locs cells slots Q g
section GR
variable {D : va_G} {s0 : State} {p : Program} {l : Launch} {e : Env} {R : Room} {s : State} {m : MethodId} {args : Array Value} {below : List Frame} {meth : Method} {c : Code} {h : gH} {k n : Nat} {Q : State → Prop}
variable {own : String} {cc : ByteArray} {nL : Nat} {ret : Option FieldType} {pc : Nat} {ls : Array Slot} {rest : List Value} {a : Nat}
/-- one instruction that leaves the heap -/
theorem g_1 {g g' : JFrame} (st : ∀ {H : Heap} {locs : List Loc} {cells slots : Nat}, W p l e R s m args below meth c H locs cells slots Q g' → W p l e R s m args below meth c H locs cells slots Q g)
    (kk : G D s0 p l e R s m args below meth c h k n Q g') : G D s0 p l e R s m args below meth c h k n Q g :=
  fun H locs cells slots hM hl h1 h2 => st (kk H locs cells slots hM hl h1 h2)
theorem g_2 {g g1 g2 : JFrame} {P1 P2 : Prop} (st : ∀ {H : Heap} {locs : List Loc} {cells slots : Nat}, (P1 → W p l e R s m args below meth c H locs cells slots Q g1) → (P2 → W p l e R s m args below meth c H locs cells slots Q g2) → W p l e R s m args below meth c H locs cells slots Q g)
    (k1 : P1 → G D s0 p l e R s m args below meth c h k n Q g1) (k2 : P2 → G D s0 p l e R s m args below meth c h k n Q g2) : G D s0 p l e R s m args below meth c h k n Q g :=
  fun H locs cells slots hM hl h1 h2 => st (fun q => k1 q H locs cells slots hM hl h1 h2) (fun q => k2 q H locs cells slots hM hl h1 h2)
theorem g_s {g : JFrame} {A : Array Slot → Prop} {f : Array Slot → JFrame} (st : ∀ {H : Heap} {locs : List Loc} {cells slots : Nat}, (∀ z : Array Slot, A z → W p l e R s m args below meth c H locs cells slots Q (f z)) → W p l e R s m args below meth c H locs cells slots Q g)
    (kk : ∀ z : Array Slot, A z → G D s0 p l e R s m args below meth c h k n Q (f z)) : G D s0 p l e R s m args below meth c h k n Q g :=
  fun H locs cells slots hM hl h1 h2 => st (fun z hz => kk z hz H locs cells slots hM hl h1 h2)
theorem g_widen {k' n' : Nat} {g : JFrame} (hk : k ≤ k') (hn : n ≤ n') (kk : G D s0 p l e R s m args below meth c h k' n' Q g) : G D s0 p l e R s m args below meth c h k n Q g :=
  fun H locs cells slots hM hl h1 h2 => kk H locs cells slots hM hl (Nat.le_trans h1 hk) (Nat.le_trans h2 hn)
/-- reading a field -/
theorem g_get (X : gX D s0 own cc nL ret p s m meth c) {ref : String} {q : vw_C} {ci index : Nat} (hc : vwCl[ci]? = some q) {t : Nat × Nat} {fs : List Value} (ha : h a = some (t, .inr (ci, fs))) (j : Nat) (hj : j < q.2.2) {nm d : String} (hnd : (q.2.1 j).2.1 = nm ∧ (q.2.1 j).2.2.1 = d)
    (hlink : (Cond.fieldLink own index ref nm d) ∈ lw_tbl) (hsame : (q.2.1 j).1 = ref ∨ Cond.sameField ref (q.2.1 j).1 nm d ∈ lw_tbl) {v : Value} (hv : fs[j]? = some v) (hdg : decode cc pc = .ok (.getfield index, 3))
    (kk : G D s0 p l e R s m args below meth c h k n Q (F0 m (pc + 3) ls (v :: rest))) : G D s0 p l e R s m args below meth c h k n Q (F0 m pc ls (.ref a :: rest)) := by
  obtain ⟨rfl, rfl⟩ := hnd
  refine fun H locs cells slots hM hl h1 h2 => va_get X.1 X.2.1 (X.lay hc) (fun _ h => h) X.2.2.2.2.2.1 X.K (g_P hM ha) 0 rfl hc j hj (X.w hlink rfl) (fun x hx => ?_) hv hdg (kk H locs cells slots hM hl h1 h2)
  rcases hsame with e | e
  · rw [← e]; exact hx
  · exact u_same (args := args) (X.w e rfl) x hx
theorem g_getN (X : gX D s0 own cc nL ret p s m meth c) {host : String} {q : vw_C} {ci index : Nat} (hc : vwCl[ci]? = some q) {t : Nat × Nat} {fs : List Value} (ha : h a = some (t, .inr (ci, fs))) (j : Nat) (hj : j < q.2.2) {nm d : String} (hnd : (q.2.1 j).2.1 = nm ∧ (q.2.1 j).2.2.1 = d)
    (hlink : (Cond.fieldLinkNest own index (q.2.1 j).1 nm d host) ∈ lw_tbl) {v : Value} (hv : fs[j]? = some v) (hdg : decode cc pc = .ok (.getfield index, 3))
    (kk : G D s0 p l e R s m args below meth c h k n Q (F0 m (pc + 3) ls (v :: rest))) : G D s0 p l e R s m args below meth c h k n Q (F0 m pc ls (.ref a :: rest)) := by
  obtain ⟨rfl, rfl⟩ := hnd
  exact fun H locs cells slots hM hl h1 h2 => va_getN X.1 X.2.1 (X.lay hc) (fun _ h => h) X.2.2.2.2.2.1 X.K (g_P hM ha) 0 rfl hc j hj (X.w hlink rfl) (fun _ h => h) hv hdg (kk H locs cells slots hM hl h1 h2)
theorem g_lc {locs : List Loc} {i : Nat} (hl : ∀ q ∈ locs, s0.heap.size ≤ q.base) (ha : s0.heap.size ≤ a) : ∀ q ∈ locs ++ [(⟨a, i⟩ : Loc)], s0.heap.size ≤ q.base := by
  intro q hq
  rcases List.mem_append.mp hq with h1 | h1
  · exact hl q h1
  · rw [List.mem_singleton.mp h1]
    exact ha
/-- writing a field that isn't final -/
theorem g_put (X : gX D s0 own cc nL ret p s m meth c) {ref : String} {q : vw_C} {ci index : Nat} (hc : vwCl[ci]? = some q) {t : Nat × Nat} {fs : List Value} (ha : h a = some (t, .inr (ci, fs))) (ht : t.1 ≠ 0) (j : Nat) (hj : j < q.2.2) {nm d : String} (hnd : (q.2.1 j).2.1 = nm ∧ (q.2.1 j).2.2.1 = d)
    (hlink : (Cond.fieldLink own index ref nm d) ∈ lw_tbl) (hsame : (q.2.1 j).1 = ref ∨ Cond.sameField ref (q.2.1 j).1 nm d ∈ lw_tbl) (hfin : (q.2.1 j).2.2.2 = false) {v : Value} (hn : narrow (g_ty ci j) v = v) (hfit : fits (g_ty ci j) v = true) (hlen : j < fs.length) (hdg : decode cc pc = .ok (.putfield index, 3))
    (kk : G D s0 p l e R s m args below meth c (g_up h a (t, .inr (ci, fs.set j v))) k n Q (F0 m (pc + 3) ls rest)) : G D s0 p l e R s m args below meth c h k n Q (F0 m pc ls (v :: .ref a :: rest)) := by
  obtain ⟨rfl, rfl⟩ := hnd
  intro H locs cells slots hM hl h1 h2
  have hts := X.lay (args := args) hc
  have hap := va_apart (own := own) hts (fun _ h => h) (g_ty ci) (g_ty_ok ci q hc) (g_nm ci q hc) X.K hc
  obtain ⟨⟨r, hr1, cell, q1, q2, q3, q4⟩, hN⟩ := hM.1 a _ ha
  have hr : r = q := Option.some.inj (hr1.symm.trans hc)
  subst hr
  obtain ⟨hS, hfc, kC, hkC, hkind⟩ := X.K.1 ci _ hc
  obtain ⟨cf, kf, fi, f, hi, hsl⟩ := hS j hj
  have hlay := hts _ (u_in_lay hj)
  unfold u_lay at hlay
  rw [if_neg (by rw [hfin]; decide)] at hlay
  have hst := (u_facts hfc hkC (u_lays hts (fun _ h => h) hj) hi).1
  have h6 := u_store hfc hkC hkind hlay hi (g_ty_ok ci r hc j hj) hn hfit
  have hi' : s.fieldFound? ref (r.2.1 j).2.1 (r.2.1 j).2.2.1 = some (cf, kf, fi, f) := by
    rcases hsame with e | e
    · rw [← e]; exact hi
    · exact u_same (args := args) (X.w e rfl) _ hi
  refine W.putK X.1 X.2.1 (f := f) ⟨X.2.2.2.2.2.1, X.w hlink rfl, ⟨_, _, _, hi'⟩, hst⟩ (by rw [q2]; exact h6) q1 q3 (by rw [hsl]; exact k2_hasslot (q4 j hj)) rfl rfl hdg fun H' e1 e2 e3 => ?_
  rw [hsl] at e1 ⊢
  exact kk H' _ cells slots (hM.set ha ht ⟨_, hc, t_OB.to (V := updV (vp_V fs) j v) ⟨_, e1, q2, q3, t_set q4 hap hj v⟩ (fun i _ => vp_updV_set hlen v i)⟩ e2 e3) (g_lc hl (hN ht)) h1 h2
/-- .. of a nest mate -/
theorem g_putN (X : gX D s0 own cc nL ret p s m meth c) {host : String} {q : vw_C} {ci index : Nat} (hc : vwCl[ci]? = some q) {t : Nat × Nat} {fs : List Value} (ha : h a = some (t, .inr (ci, fs))) (ht : t.1 ≠ 0) (j : Nat) (hj : j < q.2.2) {nm d : String} (hnd : (q.2.1 j).2.1 = nm ∧ (q.2.1 j).2.2.1 = d)
    (hlink : (Cond.fieldLinkNest own index (q.2.1 j).1 nm d host) ∈ lw_tbl) (hfin : (q.2.1 j).2.2.2 = false) {v : Value} (hn : narrow (g_ty ci j) v = v) (hfit : fits (g_ty ci j) v = true) (hlen : j < fs.length) (hdg : decode cc pc = .ok (.putfield index, 3))
    (kk : G D s0 p l e R s m args below meth c (g_up h a (t, .inr (ci, fs.set j v))) k n Q (F0 m (pc + 3) ls rest)) : G D s0 p l e R s m args below meth c h k n Q (F0 m pc ls (v :: .ref a :: rest)) := by
  obtain ⟨rfl, rfl⟩ := hnd
  intro H locs cells slots hM hl h1 h2
  have hts := X.lay (args := args) hc
  have hap := va_apart (own := own) hts (fun _ h => h) (g_ty ci) (g_ty_ok ci q hc) (g_nm ci q hc) X.K hc
  obtain ⟨⟨r, hr1, cell, q1, q2, q3, q4⟩, hN⟩ := hM.1 a _ ha
  have hr : r = q := Option.some.inj (hr1.symm.trans hc)
  subst hr
  obtain ⟨hS, hfc, kC, hkC, hkind⟩ := X.K.1 ci _ hc
  obtain ⟨cf, kf, fi, f, hi, hsl⟩ := hS j hj
  have hlay := hts _ (u_in_lay hj)
  unfold u_lay at hlay
  rw [if_neg (by rw [hfin]; decide)] at hlay
  have hst := (u_facts hfc hkC (u_lays hts (fun _ h => h) hj) hi).1
  have h6 := u_store hfc hkC hkind hlay hi (g_ty_ok ci r hc j hj) hn hfit
  refine va_WputK X.1 X.2.1 (f := f) X.2.2.2.2.2.1 (X.w hlink rfl) hi hst (by rw [q2]; exact h6) q1 q3 (by rw [hsl]; exact k2_hasslot (q4 j hj)) rfl rfl hdg fun H' e1 e2 e3 => ?_
  rw [hsl] at e1 ⊢
  exact kk H' _ cells slots (hM.set ha ht ⟨_, hc, t_OB.to (V := updV (vp_V fs) j v) ⟨_, e1, q2, q3, t_set q4 hap hj v⟩ (fun i _ => vp_updV_set hlen v i)⟩ e2 e3) (g_lc hl (hN ht)) h1 h2
/-- a final field, in its class's constructor -/
theorem g_putF (X : gX D s0 own cc nL ret p s m meth c) (hin2 : meth.name = "<init>") {q : vw_C} {ci index : Nat} (hc : vwCl[ci]? = some q) {t : Nat × Nat} {fs : List Value} (ha : h a = some (t, .inr (ci, fs))) (ht : t.1 ≠ 0) (j : Nat) (hj : j < q.2.2) {nm d : String} (hnd : (q.2.1 j).2.1 = nm ∧ (q.2.1 j).2.2.1 = d)
    (hdecl : (q.2.1 j).1 = own) (hlink : (Cond.fieldLink own index own nm d) ∈ lw_tbl) (hfin : (q.2.1 j).2.2.2 = true) {v : Value} (hn : narrow (g_ty ci j) v = v) (hfit : fits (g_ty ci j) v = true) (hlen : j < fs.length) (hdg : decode cc pc = .ok (.putfield index, 3))
    (kk : G D s0 p l e R s m args below meth c (g_up h a (t, .inr (ci, fs.set j v))) k n Q (F0 m (pc + 3) ls rest)) : G D s0 p l e R s m args below meth c h k n Q (F0 m pc ls (v :: .ref a :: rest)) := by
  obtain ⟨rfl, rfl⟩ := hnd
  intro H locs cells slots hM hl h1 h2
  have hts := X.lay (args := args) hc
  have hap := va_apart (own := own) hts (fun _ h => h) (g_ty ci) (g_ty_ok ci q hc) (g_nm ci q hc) X.K hc
  obtain ⟨⟨r, hr1, cell, q1, q2, q3, q4⟩, hN⟩ := hM.1 a _ ha
  have hr : r = q := Option.some.inj (hr1.symm.trans hc)
  subst hr
  obtain ⟨hS, hfc, kC, hkC, hkind⟩ := X.K.1 ci _ hc
  obtain ⟨cf, kf, fi, f, hi, hsl⟩ := hS j hj
  have hlay := hts _ (u_in_lay hj)
  unfold u_lay at hlay
  rw [if_pos hfin] at hlay
  have hst := (u_facts hfc hkC (u_lays hts (fun _ h => h) hj) hi).1
  have hcf : m.cls = cf := by
    obtain ⟨_, _, c', _, _, _, -, -, hf', -, -, -, hown2, -⟩ := Cond.laysFinal_spec hlay
    have e1 : c' = cf := by have := hi.symm.trans hf'; simp at this; exact this.1.symm
    rw [hdecl] at hown2
    rw [← e1]; exact Option.some.inj (X.2.2.2.2.2.1.symm.trans hown2)
  have h6 := u_fits hfc hkC hkind (Or.inr hlay) hi (g_ty_ok ci r hc j hj) hn hfit
  refine W.putFinK X.1 X.2.1 X.2.2.2.2.2.1 (X.w hlink rfl) (by rw [← hdecl]; exact hi) hst hcf hin2 (by rw [q2]; exact h6) q1 q3 (by rw [hsl]; exact k2_hasslot (q4 j hj)) rfl rfl hdg fun H' e1 e2 e3 => ?_
  rw [hsl] at e1 ⊢
  exact kk H' _ cells slots (hM.set ha ht ⟨_, hc, t_OB.to (V := updV (vp_V fs) j v) ⟨_, e1, q2, q3, t_set q4 hap hj v⟩ (fun i _ => vp_updV_set hlen v i)⟩ e2 e3) (g_lc hl (hN ht)) h1 h2
end GR
