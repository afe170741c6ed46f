/-! LOOPS OVER THE BLOCKS -/
def upto (f : Blk → Blk) (bs : Nat → Blk) (i : Nat) : Nat → Blk := fun j => if j < i then f (bs j) else bs j
theorem upto_at {f : Blk → Blk} {bs : Nat → Blk} {i : Nat} : upto f bs i i = bs i := if_neg (Nat.lt_irrefl i)
theorem upto_0 {f : Blk → Blk} {bs : Nat → Blk} : upto f bs 0 = bs := funext fun j => if_neg (Nat.not_lt_zero j)
theorem upto_lt {f : Blk → Blk} {bs : Nat → Blk} {n j : Nat} (h : j < n) : upto f bs n j = f (bs j) := if_pos h
theorem upto_succ {f : Blk → Blk} {bs : Nat → Blk} {i : Nat} : va_up (upto f bs i) i (f (bs i)) = upto f bs (i + 1) := by
  funext j
  by_cases h : j = i
  · subst h
    rw [va_up_self, upto_lt (Nat.lt_succ_self j)]
  · rw [va_up_ne _ _ h]
    unfold upto
    by_cases h2 : j < i
    · rw [if_pos h2, if_pos (by omega)]
    · rw [if_neg h2, if_neg (by omega)]
/-- cells of blocks alone; those and the object's own -/
def P_BB : Nat → Nat × Nat → Prop := fun _ t => t.1 = 1 ∨ (11 ≤ t.1 ∧ t.1 ≤ 13)
def P_XB : Nat → Nat × Nat → Prop := fun _ t => t.1 = 1 ∨ t.1 = 3 ∨ (11 ≤ t.1 ∧ t.1 ≤ 13)
theorem kpB_BB {D : va_G} {h h' : gH} {a : Nat} {b : Blk} (hb : isBk D h a b) (hk : kp (P_Bk a) h h') : kp P_BB h h' := by
  intro q z hq hn
  refine hk q z hq (fun y => ?_)
  rcases y with y | ⟨-, y1, y2⟩
  · obtain ⟨p1, p2, p3, fA, -⟩ := hb
    subst y
    cases fA.symm.trans hq
    exact hn (Or.inl rfl)
  · exact hn (Or.inr ⟨y1, y2⟩)
theorem BB_XB {h h' : gH} (hk : kp P_BB h h') : kp P_XB h h' := kp_mo hk (fun _ _ z => z.elim Or.inl (fun y => Or.inr (Or.inr y)))
theorem XB_LB {h h' : gH} (hk : kp P_XB h h') : kp P_LB h h' := kp_mo hk (fun _ t z => by
  rcases z with z | z | ⟨z1, z2⟩
  · exact ⟨by omega, by omega⟩
  · exact ⟨by omega, by omega⟩
  · exact ⟨by omega, by omega⟩)
/-- the state with its two lists' addresses -/
abbrev LBb (D : va_G) (h : gH) (x bl yl : Nat) (A : List Nat) (bs : Nat → Blk) (Y : List Nat) (ys : Nat → Lay) (pn tb : Int) : Prop :=
  h x = some ((3, 0), .inr (0, [.ref bl, .ref yl, .int (iZ pn), .int (iZ tb)])) ∧ isAL D h bl 0 A ∧ isAL D h yl 1 Y ∧ (∀ i, i < A.length → isBk D h (A.getD i 0) (bs i)) ∧ (∀ i, i < Y.length → isLy D h (Y.getD i 0) (ys i)) ∧ A.Nodup ∧ Y.Nodup
/-- the class's cells stay where P names none of them -/
abbrev LBt (A Y : List Nat) (q : Nat) (t : Nat × Nat) : Prop := t.1 = 3 ∨ t.1 = 5 ∨ t.1 = 14 ∨ (t.1 = 1 ∧ q ∈ A) ∨ (11 ≤ t.1 ∧ t.1 ≤ 13 ∧ t.2 ∈ A) ∨ (t.1 = 2 ∧ q ∈ Y) ∨ (t.1 = 15 ∧ t.2 ∈ Y)
theorem LBb_kp {D : va_G} {h h' : gH} {x bl yl : Nat} {A Y : List Nat} {bs : Nat → Blk} {ys : Nat → Lay} {pn tb : Int} {P : Nat → Nat × Nat → Prop} (hx : LBb D h x bl yl A bs Y ys pn tb) (hk : kp P h h') (hn : ∀ (q : Nat) (t : Nat × Nat), (∃ e, h q = some (t, e)) → LBt A Y q t → ¬ P q t) : LBb D h' x bl yl A bs Y ys pn tb := by
  obtain ⟨fX, hA, hY, h1, h2, h3, h4⟩ := hx
  refine ⟨hk _ _ fX (hn _ _ ⟨_, fX⟩ (Or.inl rfl)), ?_, ?_, ?_, ?_, h3, h4⟩
  · obtain ⟨e, mc, f1, hc⟩ := hA
    refine ⟨e, mc, hk _ _ f1 (hn _ _ ⟨_, f1⟩ (Or.inr (Or.inl rfl))), ?_⟩
    rcases hc with z | ⟨cap, f, z1, z2⟩
    · exact Or.inl z
    · exact Or.inr ⟨cap, f, hk _ _ z1 (hn _ _ ⟨_, z1⟩ (Or.inr (Or.inr (Or.inl rfl)))), z2⟩
  · obtain ⟨e, mc, f1, hc⟩ := hY
    refine ⟨e, mc, hk _ _ f1 (hn _ _ ⟨_, f1⟩ (Or.inr (Or.inl rfl))), ?_⟩
    rcases hc with z | ⟨cap, f, z1, z2⟩
    · exact Or.inl z
    · exact Or.inr ⟨cap, f, hk _ _ z1 (hn _ _ ⟨_, z1⟩ (Or.inr (Or.inr (Or.inl rfl)))), z2⟩
  · intro i hi
    obtain ⟨p1, p2, p3, fA, fB, fG, fC⟩ := h1 i hi
    have w : ∀ (q k : Nat), 11 ≤ k → k ≤ 13 → LBt A Y q (k, A.getD i 0) := fun q k z1 z2 => Or.inr (Or.inr (Or.inr (Or.inr (Or.inl ⟨z1, z2, getD_mem hi⟩))))
    exact ⟨p1, p2, p3, hk _ _ fA (hn _ _ ⟨_, fA⟩ (Or.inr (Or.inr (Or.inr (Or.inl ⟨rfl, getD_mem hi⟩))))), hk _ _ fB (hn _ _ ⟨_, fB⟩ (w _ 11 (by decide) (by decide))), hk _ _ fG (hn _ _ ⟨_, fG⟩ (w _ 12 (by decide) (by decide))), hk _ _ fC (hn _ _ ⟨_, fC⟩ (w _ 13 (by decide) (by decide)))⟩
  · intro i hi
    obtain ⟨p1, f1, f2⟩ := h2 i hi
    exact ⟨p1, hk _ _ f1 (hn _ _ ⟨_, f1⟩ (Or.inr (Or.inr (Or.inr (Or.inr (Or.inr (Or.inl ⟨rfl, getD_mem hi⟩))))))), hk _ _ f2 (hn _ _ ⟨_, f2⟩ (Or.inr (Or.inr (Or.inr (Or.inr (Or.inr (Or.inr ⟨rfl, getD_mem hi⟩)))))))⟩
theorem mem_getD {A : List Nat} {a : Nat} (h : a ∈ A) : ∃ i, i < A.length ∧ A.getD i 0 = a := by
  obtain ⟨i, hi, e⟩ := List.getElem_of_mem h
  exact ⟨i, hi, by rw [List.getD_eq_getElem?_getD, List.getElem?_eq_getElem hi]; exact e⟩
theorem LBb_fr {D : va_G} {h : gH} {x bl yl : Nat} {A Y : List Nat} {bs : Nat → Blk} {ys : Nat → Lay} {pn tb : Int} (hx : LBb D h x bl yl A bs Y ys pn tb) {a : Nat} (ha : h a = none) : a ∉ A ∧ a ∉ Y := by
  obtain ⟨fX, hA, hY, h1, h2, h3, h4⟩ := hx
  refine ⟨fun z => ?_, fun z => ?_⟩
  · obtain ⟨i, hi, e⟩ := mem_getD z
    obtain ⟨p1, p2, p3, fA, -⟩ := h1 i hi
    rw [e, ha] at fA
    cases fA
  · obtain ⟨i, hi, e⟩ := mem_getD z
    obtain ⟨p1, fA, -⟩ := h2 i hi
    rw [e, ha] at fA
    cases fA
theorem LBb_ob {D : va_G} {h : gH} {x bl yl : Nat} {A Y : List Nat} {bs : Nat → Blk} {ys : Nat → Lay} {pn tb : Int} (hx : LBb D h x bl yl A bs Y ys pn tb) : (∀ b ∈ A, g_ob h b) ∧ ∀ b ∈ Y, g_ob h b := by
  obtain ⟨fX, hA, hY, h1, h2, h3, h4⟩ := hx
  refine ⟨fun b z => ?_, fun b z => ?_⟩
  · obtain ⟨i, hi, e⟩ := mem_getD z
    obtain ⟨p1, p2, p3, fA, -⟩ := h1 i hi
    rw [e] at fA
    exact ⟨_, _, _, fA, Or.inl rfl⟩
  · obtain ⟨i, hi, e⟩ := mem_getD z
    obtain ⟨p1, fA, -⟩ := h2 i hi
    rw [e] at fA
    exact ⟨_, _, _, fA, Or.inr rfl⟩
/-- a new block or layer that is in no list yet changes -/
theorem LBb_out {D : va_G} {h h' : gH} {x bl yl : Nat} {A Y : List Nat} {bs : Nat → Blk} {ys : Nat → Lay} {pn tb : Int} (hx : LBb D h x bl yl A bs Y ys pn tb) {a : Nat} {t : Nat × Nat} {e : va_E} (ha : h a = some (t, e)) (h1 : a ∉ A) (h2 : a ∉ Y) (ht : t.1 = 1 ∨ t.1 = 2) (hk : kp (fun q u => q = a ∨ u = (15, a)) h h') : LBb D h' x bl yl A bs Y ys pn tb := by
  refine LBb_kp hx hk (fun q u hq hc z => ?_)
  obtain ⟨e2, hq⟩ := hq
  rcases z with z | z
  · subst z
    cases ha.symm.trans hq
    rcases hc with z | z | z | z | z | z | z
    · omega
    · omega
    · omega
    · exact h1 z.2
    · omega
    · exact h2 z.2
    · omega
  · subst z
    rcases hc with z | z | z | z | z | z | z
    · exact absurd (show (15 : Nat) = 3 from z) (by decide)
    · exact absurd (show (15 : Nat) = 5 from z) (by decide)
    · exact absurd (show (15 : Nat) = 14 from z) (by decide)
    · exact absurd (show (15 : Nat) = 1 from z.1) (by decide)
    · exact absurd (show (15 : Nat) ≤ 13 from z.2.1) (by decide)
    · exact absurd (show (15 : Nat) = 2 from z.1) (by decide)
    · exact h2 z.2
theorem nodup_app {A : List Nat} {a : Nat} (h : A.Nodup) (ha : a ∉ A) : (A ++ [a]).Nodup := by
  rw [List.nodup_append]
  exact ⟨h, by simp, fun x hx y hy e => by rw [List.mem_singleton.mp hy] at e; exact ha (e ▸ hx)⟩
theorem getD_app1 {A : List Nat} {a i : Nat} (h : i < A.length) : (A ++ [a]).getD i 0 = A.getD i 0 := by
  rw [List.getD_eq_getElem?_getD, List.getD_eq_getElem?_getD, List.getElem?_append_left h]
theorem getD_app2 {A : List Nat} {a : Nat} : (A ++ [a]).getD A.length 0 = a := by
  rw [List.getD_eq_getElem?_getD, List.getElem?_append_right (Nat.le_refl _), Nat.sub_self]
  rfl
/-- its own numbers have changed -/
theorem isLB.setX {D : va_G} {h h1 : gH} {x bl yl : Nat} {A Y : List Nat} {bs : Nat → Blk} {ys : Nat → Lay} {pn tb pn2 tb2 : Int} (hx : isLB D h x A bs Y ys pn tb) (fX : h x = some ((3, 0), .inr (0, [.ref bl, .ref yl, .int (iZ pn), .int (iZ tb)]))) (e : h1 = g_up h x ((3, 0), .inr (0, [.ref bl, .ref yl, .int (iZ pn2), .int (iZ tb2)]))) : isLB D h1 x A bs Y ys pn2 tb2 := by
  obtain ⟨bl', yl', fX', hA, hY, h1', h2, h3, h4⟩ := hx
  obtain ⟨rfl, rfl⟩ : bl = bl' ∧ yl = yl' := by
    have z := fX.symm.trans fX'
    simp only [Option.some.injEq, Prod.mk.injEq, Sum.inr.injEq, List.cons.injEq, Value.ref.injEq] at z
    exact ⟨z.2.2.1, z.2.2.2.1⟩
  have kq : ∀ (q : Nat) (t : Nat × Nat) (c : va_E), h q = some (t, c) → t.1 ≠ 3 → h1 q = some (t, c) := fun q t c hq ht => by
    rw [e]
    exact g_uk hq fX ht
  refine ⟨bl, yl, by rw [e]; exact g_us, ?_, ?_, ?_, ?_, h3, h4⟩
  · obtain ⟨e, mc, f1, hc⟩ := hA
    refine ⟨e, mc, kq _ _ _ f1 (show (5 : Nat) ≠ 3 by decide), ?_⟩
    rcases hc with z | ⟨cap, f, z1, z2⟩
    · exact Or.inl z
    · exact Or.inr ⟨cap, f, kq _ _ _ z1 (show (14 : Nat) ≠ 3 by decide), z2⟩
  · obtain ⟨e, mc, f1, hc⟩ := hY
    refine ⟨e, mc, kq _ _ _ f1 (show (5 : Nat) ≠ 3 by decide), ?_⟩
    rcases hc with z | ⟨cap, f, z1, z2⟩
    · exact Or.inl z
    · exact Or.inr ⟨cap, f, kq _ _ _ z1 (show (14 : Nat) ≠ 3 by decide), z2⟩
  · intro i hi
    obtain ⟨p1, p2, p3, fA, fB, fG, fC⟩ := h1' i hi
    exact ⟨p1, p2, p3, kq _ _ _ fA (show (1 : Nat) ≠ 3 by decide), kq _ _ _ fB (show (11 : Nat) ≠ 3 by decide), kq _ _ _ fG (show (12 : Nat) ≠ 3 by decide), kq _ _ _ fC (show (13 : Nat) ≠ 3 by decide)⟩
  · intro i hi
    obtain ⟨p1, f1, f2⟩ := h2 i hi
    exact ⟨p1, kq _ _ _ f1 (show (2 : Nat) ≠ 3 by decide), kq _ _ _ f2 (show (15 : Nat) ≠ 3 by decide)⟩
/-- what the other list, the blocks and the layers keep of a list's change -/
theorem kpA_oth {D : va_G} {h h' : gH} {a w : Nat} {L : List Nat} (hb : isAL D h a w L) (hk : kp (P_AL a) h h') {q : Nat} {t : Nat × Nat} {c : va_E} (hq : h q = some (t, c)) (h1 : t.1 ≠ 5) (h2 : t.1 ≠ 14) : h' q = some (t, c) := by
  refine hk _ _ hq (fun y => ?_)
  rcases y with y | y
  · obtain ⟨e, mc, fA, -⟩ := hb
    exact g_ne hq fA h1 y
  · exact h2 (by rw [show t = (14, a) from y])
theorem isAL_oth {D : va_G} {h h' : gH} {a w a2 w2 : Nat} {L L2 : List Nat} (ha : isAL D h a w L) (hb : isAL D h a2 w2 L2) (hw : w ≠ w2) (hk : kp (P_AL a2) h h') : isAL D h' a w L := by
  obtain ⟨e2, mc2, f2, -⟩ := hb
  obtain ⟨e, mc, f1, hc⟩ := ha
  have hne : a ≠ a2 := fun z => by
    subst z
    have z := f1.symm.trans f2
    simp only [Option.some.injEq, Prod.mk.injEq] at z
    exact hw z.1.2
  refine ⟨e, mc, hk _ _ f1 (fun y => ?_), ?_⟩
  · rcases y with y | y
    · exact hne y
    · exact absurd (show (5 : Nat) = 14 from congrArg Prod.fst y) (by decide)
  · rcases hc with z | ⟨cap, f, z1, z2⟩
    · exact Or.inl z
    · refine Or.inr ⟨cap, f, hk _ _ z1 (fun y => ?_), z2⟩
      rcases y with y | y
      · exact g_ne z1 f2 (show (14 : Nat) ≠ 5 by decide) y
      · exact hne (show a = a2 from congrArg Prod.snd y)
theorem isBk_al {D : va_G} {h h' : gH} {a2 w2 b : Nat} {L2 : List Nat} {k : Blk} (ha : isBk D h b k) (hb : isAL D h a2 w2 L2) (hk : kp (P_AL a2) h h') : isBk D h' b k := by
  obtain ⟨p1, p2, p3, fA, fB, fG, fC⟩ := ha
  exact ⟨p1, p2, p3, kpA_oth hb hk fA (show (1 : Nat) ≠ 5 by decide) (show (1 : Nat) ≠ 14 by decide), kpA_oth hb hk fB (show (11 : Nat) ≠ 5 by decide) (show (11 : Nat) ≠ 14 by decide), kpA_oth hb hk fG (show (12 : Nat) ≠ 5 by decide) (show (12 : Nat) ≠ 14 by decide), kpA_oth hb hk fC (show (13 : Nat) ≠ 5 by decide) (show (13 : Nat) ≠ 14 by decide)⟩
theorem isLy_al {D : va_G} {h h' : gH} {a2 w2 b : Nat} {L2 : List Nat} {k : Lay} (ha : isLy D h b k) (hb : isAL D h a2 w2 L2) (hk : kp (P_AL a2) h h') : isLy D h' b k := by
  obtain ⟨p1, fA, fB⟩ := ha
  exact ⟨p1, kpA_oth hb hk fA (show (2 : Nat) ≠ 5 by decide) (show (2 : Nat) ≠ 14 by decide), kpA_oth hb hk fB (show (15 : Nat) ≠ 5 by decide) (show (15 : Nat) ≠ 14 by decide)⟩
abbrev rst (b : Blk) : Blk := (bB b, bG b, bC b, bP b, bS b, 0, 0)
abbrev tka (b : Blk) : Blk := (bB b, bG b, bC b, bP b, bS b, bS b, bP b)
abbrev tkn (b : Blk) : Blk := (bB b, bG b, bC b, bP b, bS b, bT b + 1, bC b (bT b + 1))
theorem rst_id {b : Blk} (h1 : bT b = 0) (h2 : bL b = 0) : b = rst b := by
  obtain ⟨B, G, C, P, S, T, L⟩ := b
  subst h1 h2
  rfl
abbrev newB : Blk := (fun _ => 0, fun _ => 0, fun _ => 0, 0, 0, 0, 0)
/-- a block more -/
theorem LBb_addA {D : va_G} {h h' : gH} {x bl yl b : Nat} {A Y : List Nat} {bs : Nat → Blk} {ys : Nat → Lay} {pn tb : Int} {k : Blk} (hx : LBb D h x bl yl A bs Y ys pn tb) (hb : isBk D h b k) (hn : b ∉ A) (hA' : isAL D h' bl 0 (A ++ [b])) (hk : kp (P_AL bl) h h') : isLB D h' x (A ++ [b]) (va_up bs A.length k) Y ys pn tb := by
  obtain ⟨fX, hA, hY, h1, h2, h3, h4⟩ := hx
  refine ⟨bl, yl, kpA_oth hA hk fX (show (3 : Nat) ≠ 5 by decide) (show (3 : Nat) ≠ 14 by decide), hA', isAL_oth hY hA (by decide) hk, fun i hi => ?_, fun i hi => isLy_al (h2 i hi) hA hk, nodup_app h3 hn, h4⟩
  rw [List.length_append, List.length_singleton] at hi
  by_cases e : i = A.length
  · rw [e, va_up_self, getD_app2]
    exact isBk_al hb hA hk
  · rw [va_up_ne _ _ e, getD_app1 (by omega)]
    exact isBk_al (h1 i (by omega)) hA hk
/-- a layer more -/
theorem LBb_addY {D : va_G} {h h' : gH} {x bl yl b : Nat} {A Y : List Nat} {bs : Nat → Blk} {ys : Nat → Lay} {pn tb : Int} {k : Lay} (hx : LBb D h x bl yl A bs Y ys pn tb) (hb : isLy D h b k) (hn : b ∉ Y) (hA' : isAL D h' yl 1 (Y ++ [b])) (hk : kp (P_AL yl) h h') : isLB D h' x A bs (Y ++ [b]) (va_up ys Y.length k) pn tb := by
  obtain ⟨fX, hA, hY, h1, h2, h3, h4⟩ := hx
  refine ⟨bl, yl, kpA_oth hY hk fX (show (3 : Nat) ≠ 5 by decide) (show (3 : Nat) ≠ 14 by decide), isAL_oth hA hY (by decide) hk, hA', fun i hi => isBk_al (h1 i hi) hY hk, fun i hi => ?_, h3, nodup_app h4 hn⟩
  rw [List.length_append, List.length_singleton] at hi
  by_cases e : i = Y.length
  · rw [e, va_up_self, getD_app2]
    exact isLy_al hb hY hk
  · rw [va_up_ne _ _ e, getD_app1 (by omega)]
    exact isLy_al (h2 i (by omega)) hY hk
