/-! steps that are left -/
def rem (bs : Nat → Blk) : Nat → Nat
  | 0 => 0
  | n + 1 => rem bs n + (bS (bs n) - bT (bs n))
theorem rem_0 {bs : Nat → Blk} : ∀ {n : Nat}, rem bs n = 0 → stp bs n = 0
  | 0, _ => rfl
  | n + 1, h => by
    have h' : rem bs n + (bS (bs n) - bT (bs n)) = 0 := h
    rw [stp_f (fun w => by have := w.1; omega)]
    exact rem_0 (by omega)
theorem stp_no {bs : Nat → Blk} : ∀ {n : Nat}, (∀ i, i < n → ¬ hN (bs i)) → stp bs n = 0
  | 0, _ => rfl
  | n + 1, h => by
    rw [stp_f (fun w => h n (Nat.lt_succ_self n) w.1)]
    exact stp_no (fun i hi => h i (Nat.lt_succ_of_lt hi))
theorem tkS_rem (sg sb : Int) (b : Blk) : bS (tkS sg sb b) - bT (tkS sg sb b) ≤ bS b - bT b := by
  unfold tkS
  split
  · show bS b - (bT b + 1) ≤ bS b - bT b
    omega
  · exact Nat.le_refl _
theorem rem_le {sg sb : Int} {bs : Nat → Blk} : ∀ {n : Nat}, rem (fun j => tkS sg sb (bs j)) n ≤ rem bs n
  | 0 => Nat.le_refl 0
  | n + 1 => by
    have a := rem_le (sg := sg) (sb := sb) (bs := bs) (n := n)
    have b := tkS_rem sg sb (bs n)
    show rem (fun j => tkS sg sb (bs j)) n + (bS (tkS sg sb (bs n)) - bT (tkS sg sb (bs n))) ≤ rem bs n + (bS (bs n) - bT (bs n))
    omega
theorem rem_dec {sg sb : Int} {bs : Nat → Blk} {i : Nat} (he : eqS sg sb (bs i)) : ∀ {n : Nat}, i < n → rem (fun j => tkS sg sb (bs j)) n < rem bs n
  | 0, h => absurd h (Nat.not_lt_zero _)
  | n + 1, h => by
    show rem (fun j => tkS sg sb (bs j)) n + (bS (tkS sg sb (bs n)) - bT (tkS sg sb (bs n))) < rem bs n + (bS (bs n) - bT (bs n))
    have b := tkS_rem sg sb (bs n)
    by_cases e : i = n
    · subst e
      have a := rem_le (sg := sg) (sb := sb) (bs := bs) (n := i)
      have c : bS (tkS sg sb (bs i)) - bT (tkS sg sb (bs i)) = bS (bs i) - (bT (bs i) + 1) := by rw [tkS_t he]
      have d := he.1
      omega
    · have a := rem_dec he (show i < n by omega)
      omega
theorem tss_BGP {n : Nat} {bud : Int} : ∀ {k : Nat} {q : Tkg}, ∀ i, bB ((tss n bud k q).1 i) = bB (q.1 i) ∧ bG ((tss n bud k q).1 i) = bG (q.1 i) ∧ bP ((tss n bud k q).1 i) = bP (q.1 i)
  | 0, _ => fun _ => ⟨rfl, rfl, rfl⟩
  | k + 1, q => fun i => by
    unfold tss
    split
    · exact ⟨rfl, rfl, rfl⟩
    · split
      · exact ⟨rfl, rfl, rfl⟩
      · have z := tss_BGP (n := n) (bud := bud) (k := k) (q := (fun j => tkS (nG (bst q n)) (nB (bst q n)) (q.1 j), q.2.1 + cst q.1 (nG (bst q n)) (nB (bst q n)) n, nG (bst q n), nB (bst q n))) i
        have y := tkS_BGP (nG (bst q n)) (nB (bst q n)) (q.1 i)
        exact ⟨z.1.trans y.1, z.2.1.trans y.2.1, z.2.2.trans y.2.2⟩
theorem tss_wfC {n : Nat} {bud : Int} : ∀ {k : Nat} {q : Tkg}, (∀ i, i < n → wfC (q.1 i)) → ∀ i, i < n → wfC ((tss n bud k q).1 i)
  | 0, _, h => h
  | k + 1, q, h => by
    unfold tss
    split
    · exact h
    · split
      · exact h
      · exact tss_wfC (fun i hi => wfC_tkS (h i hi))
theorem tss_tot {n : Nat} {bud : Int} : ∀ {k : Nat} {q : Tkg}, (∀ i, i < n → wfC (q.1 i)) → q.2.1 = totB q.1 n → (tss n bud k q).2.1 = totB (tss n bud k q).1 n
  | 0, _, _, h => h
  | k + 1, q, hw, h => by
    unfold tss
    split
    · exact h
    · split
      · exact h
      · refine tss_tot (fun i hi => wfC_tkS (hw i hi)) ?_
        show q.2.1 + _ = totB (fun j => tkS (nG (bst q n)) (nB (bst q n)) (q.1 j)) n
        rw [totB_tkS (fun i hi => (hw i hi).1), h]
theorem lay_BGP {n N : Nat} {bud tb : Int} {bs : Nat → Blk} (i : Nat) : bB (bs i) = bB ((layQ n N bud bs tb).1 i) ∧ bG (bs i) = bG ((layQ n N bud bs tb).1 i) ∧ bP (bs i) = bP ((layQ n N bud bs tb).1 i) := by
  unfold layQ
  split
  · exact ⟨rfl, rfl, rfl⟩
  · have z := tss_BGP (n := n) (bud := bud) (k := N) (q := (bs, tb, -1, -1)) i
    exact ⟨z.1.symm, z.2.1.symm, z.2.2.symm⟩
theorem lay_wfC {n N : Nat} {bud tb : Int} {bs : Nat → Blk} (h : ∀ i, i < n → wfC (bs i)) : ∀ i, i < n → wfC ((layQ n N bud bs tb).1 i) := by
  unfold layQ
  split
  · exact fun i hi => wfC_tka (h i hi)
  · exact tss_wfC h
theorem lay_tot {n N : Nat} {bud tb : Int} {bs : Nat → Blk} (h : ∀ i, i < n → wfC (bs i)) (ht : tb = totB bs n) : (layQ n N bud bs tb).2.1 = totB (layQ n N bud bs tb).1 n := by
  unfold layQ
  split
  · rfl
  · exact tss_tot h ht
theorem va_up_up (f : Nat → Int) (k : Nat) (v w : Int) : va_up (va_up f k v) k w = va_up f k w := by
  funext j
  by_cases h : j = k
  · subst h
    rw [va_up_self, va_up_self]
  · rw [va_up_ne _ _ h, va_up_ne _ _ h, va_up_ne _ _ h]
/-- thresholds are small -/
theorem tss_thr {n : Nat} {bud : Int} : ∀ {k : Nat} {q : Tkg}, (∀ i, i < n → wfC (q.1 i)) → (-1 ≤ q.2.2.2 ∧ q.2.2.2 ≤ 65535 ∧ -1 ≤ q.2.2.1 ∧ q.2.2.1 ≤ 65970697666560) → (-1 ≤ (tss n bud k q).2.2.2 ∧ (tss n bud k q).2.2.2 ≤ 65535 ∧ -1 ≤ (tss n bud k q).2.2.1 ∧ (tss n bud k q).2.2.1 ≤ 65970697666560)
  | 0, _, _, h => h
  | k + 1, q, hw, h => by
    unfold tss
    split
    · exact h
    · rename_i h0
      split
      · exact h
      · refine tss_thr (fun i hi => wfC_tkS (hw i hi)) ?_
        have hl := stp_le q.1 n
        have h1 := hw (stp q.1 n - 1) (by omega)
        have h2 := stp_has q.1 n h0
        have h3 := nB_bd h1.1
        have h4 := h3.1 h2
        have h5 := h1.up h2
        refine ⟨?_, h3.2.1, ?_, h3.2.2.2⟩
        · show -1 ≤ nB (q.1 (stp q.1 n - 1))
          omega
        · show -1 ≤ bG (q.1 (stp q.1 n - 1)) (bC (q.1 (stp q.1 n - 1)) (bT (q.1 (stp q.1 n - 1)) + 1)) - bG (q.1 (stp q.1 n - 1)) (bC (q.1 (stp q.1 n - 1)) (bT (q.1 (stp q.1 n - 1))))
          omega
theorem lay_thr {n N : Nat} {bud tb : Int} {bs : Nat → Blk} (h : ∀ i, i < n → wfC (bs i)) : (-1 ≤ (layQ n N bud bs tb).2.2.2 ∧ (layQ n N bud bs tb).2.2.2 ≤ 65535 ∧ -1 ≤ (layQ n N bud bs tb).2.2.1 ∧ (layQ n N bud bs tb).2.2.1 ≤ 65970697666560) := by
  unfold layQ
  split
  · exact ⟨show (-1 : Int) ≤ -1 by decide, show (-1 : Int) ≤ 65535 by decide, show (-1 : Int) ≤ -1 by decide, show (-1 : Int) ≤ 65970697666560 by decide⟩
  · exact tss_thr h ⟨show (-1 : Int) ≤ -1 by decide, show (-1 : Int) ≤ 65535 by decide, show (-1 : Int) ≤ -1 by decide, show (-1 : Int) ≤ 65970697666560 by decide⟩
