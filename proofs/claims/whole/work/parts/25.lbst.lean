/-! THE CLASS'S STATE: A: the blocks' addresses, bs: the blocks; Y: the layers' addresses, ys: the layers; pn: passes in all; tb: bytes taken -/
def isLB (D : va_G) (h : gH) (x : Nat) (A : List Nat) (bs : Nat → Blk) (Y : List Nat) (ys : Nat → Lay) (pn tb : Int) : Prop :=
  ∃ bl yl : Nat, h x = some ((3, 0), .inr (0, [.ref bl, .ref yl, .int (iZ pn), .int (iZ tb)])) ∧ isAL D h bl 0 A ∧ isAL D h yl 1 Y ∧ (∀ i, i < A.length → isBk D h (A.getD i 0) (bs i)) ∧ (∀ i, i < Y.length → isLy D h (Y.getD i 0) (ys i)) ∧ A.Nodup ∧ Y.Nodup
/-- all cells of the class's side -/
def P_LB : Nat → Nat × Nat → Prop := fun _ t => 1 ≤ t.1 ∧ t.1 ≤ 19
theorem isAL.kp {D : va_G} {h h' : gH} {a w : Nat} {L : List Nat} {P : Nat → Nat × Nat → Prop} (ha : isAL D h a w L) (hk : kp P h h') (h1 : ¬ P a (5, w)) (h2 : ∀ q, ¬ P q (14, a)) : isAL D h' a w L := by
  obtain ⟨e, mc, f1, hc⟩ := ha
  refine ⟨e, mc, hk _ _ f1 h1, ?_⟩
  rcases hc with z | ⟨cap, f, z1, z2⟩
  · exact Or.inl z
  · exact Or.inr ⟨cap, f, hk _ _ z1 (h2 _), z2⟩
theorem isLy.kp {D : va_G} {h h' : gH} {a : Nat} {y : Lay} {P : Nat → Nat × Nat → Prop} (ha : isLy D h a y) (hk : kp P h h') (h1 : ¬ P a (2, 0)) (h2 : ∀ q, ¬ P q (15, a)) : isLy D h' a y := by
  obtain ⟨p1, f1, f2⟩ := ha
  exact ⟨p1, hk _ _ f1 h1, hk _ _ f2 (h2 _)⟩
theorem kpB_LB {D : va_G} {h h' : gH} {a : Nat} {b : Blk} (hb : isBk D h a b) (hk : kp (P_Bk a) h h') : kp P_LB h h' := by
  intro q z hq hn
  refine hk q z hq (fun y => ?_)
  rcases y with y | ⟨-, y1, y2⟩
  · obtain ⟨p1, p2, p3, fA, -⟩ := hb
    subst y
    cases fA.symm.trans hq
    exact hn ⟨Nat.le_of_ble_eq_true rfl, Nat.le_of_ble_eq_true rfl⟩
  · exact hn ⟨by omega, by omega⟩
theorem kpA_LB {D : va_G} {h h' : gH} {a w : Nat} {L : List Nat} (hb : isAL D h a w L) (hk : kp (P_AL a) h h') : kp P_LB h h' := by
  intro q z hq hn
  refine hk q z hq (fun y => ?_)
  rcases y with y | y
  · obtain ⟨e, mc, fA, -⟩ := hb
    subst y
    cases fA.symm.trans hq
    exact hn ⟨Nat.le_of_ble_eq_true rfl, Nat.le_of_ble_eq_true rfl⟩
  · exact hn ⟨by rw [y]; exact Nat.le_of_ble_eq_true rfl, by rw [y]; exact Nat.le_of_ble_eq_true rfl⟩
theorem isBk.ne {D : va_G} {h : gH} {a q : Nat} {b : Blk} {x : gE} (hb : isBk D h a b) (hq : h q = some x) (ht : x.1.1 ≠ 1) : q ≠ a := by
  obtain ⟨p1, p2, p3, fA, -⟩ := hb
  exact g_ne hq fA ht
theorem getD_inj {A : List Nat} (hn : A.Nodup) {i j : Nat} (hi : i < A.length) (hj : j < A.length) (e : A.getD i 0 = A.getD j 0) : i = j := by
  rw [List.getD_eq_getElem?_getD, List.getD_eq_getElem?_getD, List.getElem?_eq_getElem hi, List.getElem?_eq_getElem hj] at e
  exact (List.getElem_inj hn).mp e
theorem getD_mem {A : List Nat} {i : Nat} (hi : i < A.length) : A.getD i 0 ∈ A := by
  rw [List.getD_eq_getElem?_getD, List.getElem?_eq_getElem hi]
  exact List.getElem_mem hi
theorem isLB.congr {D : va_G} {h : gH} {x : Nat} {A Y : List Nat} {bs bs2 : Nat → Blk} {ys : Nat → Lay} {pn tb : Int} (hx : isLB D h x A bs Y ys pn tb) (hb : ∀ i, i < A.length → bs i = bs2 i) : isLB D h x A bs2 Y ys pn tb := by
  obtain ⟨bl, yl, f, hA, hY, h1, h2, h3, h4⟩ := hx
  exact ⟨bl, yl, f, hA, hY, fun i hi => by rw [← hb i hi]; exact h1 i hi, h2, h3, h4⟩
/-- one block has changed -/
theorem isLB.setB {D : va_G} {h h' : gH} {x i : Nat} {A Y : List Nat} {bs : Nat → Blk} {ys : Nat → Lay} {pn tb : Int} {b' : Blk} (hx : isLB D h x A bs Y ys pn tb) (hi : i < A.length) (hb : isBk D h' (A.getD i 0) b') (hk : kp (P_Bk (A.getD i 0)) h h') : isLB D h' x A (va_up bs i b') Y ys pn tb := by
  obtain ⟨bl, yl, fX, hA, hY, h1, h2, h3, h4⟩ := hx
  have hbi := h1 i hi
  have np : ∀ (q : Nat) (t : Nat × Nat) (e : va_E), h q = some (t, e) → t.1 ≠ 1 → (t.1 < 11 ∨ 13 < t.1) → ¬ P_Bk (A.getD i 0) q t := by
    intro q t e hq h5 h6 z
    rcases z with z | ⟨-, z1, z2⟩
    · exact hbi.ne hq h5 z
    · omega
  refine ⟨bl, yl, hk _ _ fX (np _ _ _ fX (show (3 : Nat) ≠ 1 by decide) (Or.inl (show (3 : Nat) < 11 by decide))), ?_, ?_, ?_, ?_, h3, h4⟩
  · obtain ⟨e, mc, f1, hc⟩ := hA
    refine ⟨e, mc, hk _ _ f1 (np _ _ _ f1 (show (5 : Nat) ≠ 1 by decide) (Or.inl (show (5 : Nat) < 11 by decide))), ?_⟩
    rcases hc with z | ⟨cap, f, z1, z2⟩
    · exact Or.inl z
    · exact Or.inr ⟨cap, f, hk _ _ z1 (np _ _ _ z1 (show (14 : Nat) ≠ 1 by decide) (Or.inr (show (13 : Nat) < 14 by decide))), z2⟩
  · obtain ⟨e, mc, f1, hc⟩ := hY
    refine ⟨e, mc, hk _ _ f1 (np _ _ _ f1 (show (5 : Nat) ≠ 1 by decide) (Or.inl (show (5 : Nat) < 11 by decide))), ?_⟩
    rcases hc with z | ⟨cap, f, z1, z2⟩
    · exact Or.inl z
    · exact Or.inr ⟨cap, f, hk _ _ z1 (np _ _ _ z1 (show (14 : Nat) ≠ 1 by decide) (Or.inr (show (13 : Nat) < 14 by decide))), z2⟩
  · intro j hj
    by_cases hij : j = i
    · subst hij
      rw [va_up_self]
      exact hb
    · rw [va_up_ne _ _ hij]
      obtain ⟨q1, q2, q3, gA, gB, gG, gC⟩ := h1 j hj
      have hne : A.getD j 0 ≠ A.getD i 0 := fun z => hij (getD_inj h3 hj hi z)
      refine ⟨q1, q2, q3, hk _ _ gA ?_, hk _ _ gB ?_, hk _ _ gG ?_, hk _ _ gC ?_⟩
      · rintro (z | ⟨-, z, -⟩)
        · exact hne z
        · exact absurd z (show ¬ (11 : Nat) ≤ 1 by decide)
      · rintro (z | ⟨z, -⟩)
        · exact hbi.ne gB (show (11 : Nat) ≠ 1 by decide) z
        · exact hne z
      · rintro (z | ⟨z, -⟩)
        · exact hbi.ne gG (show (12 : Nat) ≠ 1 by decide) z
        · exact hne z
      · rintro (z | ⟨z, -⟩)
        · exact hbi.ne gC (show (13 : Nat) ≠ 1 by decide) z
        · exact hne z
  · intro j hj
    obtain ⟨p1, f1, f2⟩ := h2 j hj
    exact ⟨p1, hk _ _ f1 (np _ _ _ f1 (show (2 : Nat) ≠ 1 by decide) (Or.inl (show (2 : Nat) < 11 by decide))), hk _ _ f2 (np _ _ _ f2 (show (15 : Nat) ≠ 1 by decide) (Or.inr (show (13 : Nat) < 15 by decide)))⟩
