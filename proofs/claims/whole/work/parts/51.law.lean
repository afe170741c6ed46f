/-! THE CLAIM OUT OF ONE WALK OF THE LAW'S BODY. Your part is whole_start (and what it stands on); all else here is the same for every law, but numbers. -/
def R_law : String := "LayerBudgetsLaw"
def lw_P (b : Addr) (xs : List Int32) (args : Array Value) (s : State) : Prop := args = #[.ref b] ∧ s.IntsAt b xs ∧ xs.length ≤ 2560 ∧ (Jvm.Cond.and given_1 narrow_1).before args s = true
def lw_Q (_ : Array Value) (s : State) (o : Outcome) (t : State) : Prop := o = .returned (some (.int 1)) ∧ Framed s o t [] 601024 7293034
def lw_Z (below : List Frame) (a : Array Value) (s : State) : State → Prop := fun t => ∃ o, t.status = .running ∧ Ended t below o ∧ lw_Q a s o t
/-- the law's own end, with 1 on the stack, nothing written that was there before, its room as the claim has it -/
theorem lw_ret {p : Program} {l : Launch} {e : Env} {s : State} {m : MethodId} {below : List Frame} {meth : Method} {c : Code} {b : Nat} (hx : p.tables.exec = Jvm.exec) (hb : c.code = code) (hr : meth.sig.returnType = ret) (hlocks : meth.locks = false) {pc : Nat} {H : Heap} {ls : Array Slot} (hdg : decode code pc = .ok (.ireturn, 1)) : W p l e room_1 s m #[Value.ref b] below meth c H [] 601024 7293034 (lw_Z below #[Value.ref b] s) (F0 m pc ls [.int 1]) := by
  intro T hT X
  obtain ⟨fs, hret, hrun, hended, hW, hframe⟩ := X.leave (v := some (.int 1)) (hlocks := hlocks) (fun h => by rw [hr] at h; cases h)
  have hmeth' : T.vm.method? m = some meth := X.method'
  refine ⟨T.setFrames fs, ?_, .returned (some (.int 1)), hrun, hended, rfl, ⟨_, rfl⟩, hW, hframe⟩
  jvm_step X.here [X.here.top, hx, hb, hdg, hmeth', hr, ret, narrow_b1]
  (try refine ⟨rfl, ?_⟩); (try refine ⟨rfl, ?_⟩)
  first | (intro acts; rw [hret _ acts rfl rfl rfl]) | rw [hret _ _ rfl rfl rfl]
  exact Steps.refl _
/-- what holds at the law's entry: the machine, the code, the tables' words (any of lw_tbl by 'hts w (by decide +kernel)'), the script of L ints xs at the cell b, what the Statement gives of the start (any of its parts by flat_of_before) -/
def lw_At (p : Program) (s : State) (m : MethodId) (meth : Method) (c : Code) (b L : Nat) (xs : Nat → Int32) : Prop :=
  p.tables.exec = Jvm.exec ∧ c.code = code ∧ meth.sig.returnType = ret ∧ c.maxLocals = 8 ∧ s.vm.findClass R_law = some m.cls ∧ (∀ w ∈ lw_tbl, w.before #[Value.ref b] s = true) ∧ va_X b L xs s s.heap ∧ b < s.heap.size ∧ meth.locks = false ∧ (Jvm.Cond.and given_1 narrow_1).before #[Value.ref b] s = true
/-! THE LAW'S LOOP: its state, its end -/
abbrev GL (D : va_G) (s0 : State) (p : Program) (l : Launch) (e : Env) (m : MethodId) (below : List Frame) (meth : Method) (c : Code) (b : Nat) (h : gH) (k n : Nat) (g : JFrame) : Prop := G D s0 p l e room_1 s0 m #[Value.ref b] below meth c h k n (lw_Z below #[Value.ref b] s0) g
def lawS (D : va_G) (h : gH) (x a o : Nat) : Prop := ∃ (A : List Nat) (bs : Nat → Blk) (Y : List Nat) (ys : Nat → Lay) (pn tb : Int) (M : Mdl) (g0 : Nat → Int),
  isLB D h x A bs Y ys pn tb ∧ isMD D h a M ∧ h o = some ((40, 0), gL D 1 g0) ∧ INV A.length bs Y.length ys pn tb M
theorem kp_0LO {h h' : gH} {q : Nat} {e : va_E} (hk : kp P_LO h h') (hq : h q = some ((0, 0), e)) : h' q = some ((0, 0), e) := hk _ _ hq (fun z => by
  rcases z with z | z
  · exact absurd z.1 (show ¬ (1 : Nat) ≤ 0 by decide)
  · exact absurd z (show ¬ (0 : Nat) = 40 by decide))
theorem kp_0MD {h h' : gH} {q : Nat} {e : va_E} (hk : kp P_MD h h') (hq : h q = some ((0, 0), e)) : h' q = some ((0, 0), e) := hk _ _ hq (fun z => absurd z.1 (show ¬ (20 : Nat) ≤ 0 by decide))
theorem kp_oMD {h h' : gH} {q : Nat} {e : va_E} (hk : kp P_MD h h') (hq : h q = some ((40, 0), e)) : h' q = some ((40, 0), e) := hk _ _ hq (fun z => absurd z.2 (show ¬ (40 : Nat) ≤ 39 by decide))
theorem kp_oLB {h h' : gH} {q : Nat} {e : va_E} (hk : kp P_LB h h') (hq : h q = some ((40, 0), e)) : h' q = some ((40, 0), e) := hk _ _ hq (fun z => absurd z.2 (show ¬ (40 : Nat) ≤ 19 by decide))
theorem and15 (v : Int) : ∃ k : Nat, k < 16 ∧ (iZ v &&& iZ 15) = iZ k := by
  refine ⟨(iZ v &&& iZ 15).toBitVec.toNat, ?_, ?_⟩
  · rw [Int32.toBitVec_and, BitVec.toNat_and]
    exact Nat.lt_succ_of_le (Nat.le_trans Nat.and_le_right (by decide))
  · rw [← iZ_nat]
    apply Int32.toBitVec.inj
    simp
/-- the gain of a call of pass, out of two ints -/
def gl (u v : Int) : Int := ((lZ u <<< ((iZ 32).toInt64 &&& 63)) ||| (lZ v &&& lZ 4294967295)).toInt
theorem gl_ok (u v : Int) : l_ok (gl u v) := (lZ_of _).1
theorem gl_eq (u v : Int) : ((lZ u <<< ((iZ 32).toInt64 &&& 63)) ||| (lZ v &&& lZ 4294967295)) = lZ (gl u v) := (lZ_of _).2
theorem g_end {D : va_G} {s0 : State} {p : Program} {l : Launch} {e : Env} {m : MethodId} {below : List Frame} {meth : Method} {c : Code} {b : Nat} {h : gH} {k n pc : Nat} {ls : Array Slot} (X : gX D s0 "LayerBudgetsLaw" code 8 ret p s0 m meth c) (hk : k ≤ 601024) (hn : n ≤ 7293034) (hdg : decode code pc = .ok (.ireturn, 1)) : GL D s0 p l e m below meth c b h k n (F0 m pc ls [.int (iZ 1)]) := by
  intro H locs cells slots hM hl h1 h2
  refine va_forget hl (W.widen (k := 601024) (n := 7293034) (Nat.le_trans h1 hk) (Nat.le_trans h2 hn) ?_)
  have z := lw_ret (l := l) (e := e) (s := s0) (m := m) (below := below) (b := b) (H := H) (ls := ls) X.1 X.2.1 X.2.2.2.1 X.2.2.2.2.1 hdg
  rw [show iZ 1 = 1 by decide]
  exact z
/-- the script: L ints xs at the cell b -/
def scrX (s0 : State) (b L : Nat) (xs : Nat → Int) : Prop := b < s0.heap.size ∧ va_X b L (fun j => iZ (xs j)) s0 s0.heap
theorem g_va_S {D : va_G} {s0 : State} {h : gH} {H : Heap} {locs : List Loc} (hM : g_M D s0 h H) (hl : ∀ q ∈ locs, s0.heap.size ≤ q.base) : va_S (fun q => s0.heap.size ≤ q) s0.heap H locs := ⟨hM.2.2, fun q hq _ => hM.2.1 q hq, hl⟩
section GS
variable {D : va_G} {s0 : State} {p : Program} {l : Launch} {e : Env} {R : Room} {m : MethodId} {args : Array Value} {below : List Frame} {meth : Method} {c : Code} {h : gH} {k n : Nat} {Q : State → Prop}
variable {own : String} {cc : ByteArray} {nL : Nat} {ret : Option FieldType} {pc : Nat} {ls : Array Slot} {rest : List Value} {b L : Nat} {xs : Nat → Int}
theorem g_sld (X : gX D s0 own cc nL ret p s0 m meth c) (hX : scrX s0 b L xs) {i : Int} (j : Nat) (hi : i = (j : Int)) (hj : j < L) (hL : L < 2147483648) (hdg : decode cc pc = .ok (.iaload, 1))
    (kk : G D s0 p l e R s0 m args below meth c h k n Q (F0 m (pc + 1) ls (.int (iZ (xs j)) :: rest))) : G D s0 p l e R s0 m args below meth c h k n Q (F0 m pc ls (.int (iZ i) :: .ref b :: rest)) := by
  intro H locs cells slots hM hl h1 h2
  refine va_sld X.1 X.2.1 hX.2 hX.1 (Nat.not_le.mpr hX.1) (g_va_S hM hl) (iZ_in hi hj hL) hdg ?_
  rw [iZ_n hi (by omega)]
  exact kk H locs cells slots hM hl h1 h2
theorem g_slen (X : gX D s0 own cc nL ret p s0 m meth c) (hX : scrX s0 b L xs) (hdg : decode cc pc = .ok (.arraylength, 1))
    (kk : G D s0 p l e R s0 m args below meth c h k n Q (F0 m (pc + 1) ls (.int (iZ L) :: rest))) : G D s0 p l e R s0 m args below meth c h k n Q (F0 m pc ls (.ref b :: rest)) := by
  intro H locs cells slots hM hl h1 h2
  refine va_slen X.1 X.2.1 hX.2 hX.1 (Nat.not_le.mpr hX.1) (g_va_S hM hl) hdg ?_
  rw [iZ_nat]
  exact kk H locs cells slots hM hl h1 h2
end GS
