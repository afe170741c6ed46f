/-! A LAYER'S TAKING, as pure functions of the blocks -/
abbrev hN (b : Blk) : Prop := bT b < bS b
abbrev nG (b : Blk) : Int := bG b (bC b (bT b + 1)) - bG b (bC b (bT b))
abbrev nB (b : Blk) : Int := bB b (bC b (bT b + 1)) - bB b (bC b (bT b))
/-- the steepest block and 1; 0: none -/
def stp (bs : Nat → Blk) : Nat → Nat
  | 0 => 0
  | n + 1 => if hN (bs n) ∧ (stp bs n = 0 ∨ nG (bs (stp bs n - 1)) * nB (bs n) < nG (bs n) * nB (bs (stp bs n - 1))) then n + 1 else stp bs n
theorem stp_t {bs : Nat → Blk} {n : Nat} (h1 : hN (bs n)) (h2 : stp bs n = 0 ∨ nG (bs (stp bs n - 1)) * nB (bs n) < nG (bs n) * nB (bs (stp bs n - 1))) : stp bs (n + 1) = n + 1 := if_pos ⟨h1, h2⟩
theorem stp_f {bs : Nat → Blk} {n : Nat} (h : ¬ (hN (bs n) ∧ (stp bs n = 0 ∨ nG (bs (stp bs n - 1)) * nB (bs n) < nG (bs n) * nB (bs (stp bs n - 1))))) : stp bs (n + 1) = stp bs n := if_neg h
theorem stp_le (bs : Nat → Blk) : ∀ n, stp bs n ≤ n
  | 0 => Nat.le_refl 0
  | n + 1 => by
    unfold stp
    split
    · exact Nat.le_refl _
    · exact Nat.le_succ_of_le (stp_le bs n)
theorem stp_has (bs : Nat → Blk) : ∀ n, stp bs n ≠ 0 → hN (bs (stp bs n - 1))
  | 0, h => absurd rfl h
  | n + 1, h => by
    unfold stp at h ⊢
    split
    · rename_i z
      exact z.1
    · rename_i z
      rw [if_neg z] at h
      exact stp_has bs n h
abbrev eqS (sg sb : Int) (b : Blk) : Prop := bT b < bS b ∧ cmpZ (nG b * sb) (sg * nB b) = 0
def cst (bs : Nat → Blk) (sg sb : Int) (n : Nat) : Int := sm (fun j => if eqS sg sb (bs j) then nB (bs j) else 0) n
def tkS (sg sb : Int) (b : Blk) : Blk := if eqS sg sb b then tkn b else b
/-- state of a layer's taking: blocks, bytes, threshold -/
abbrev Tkg : Type := (Nat → Blk) × Int × Int × Int
abbrev bst (q : Tkg) (n : Nat) : Blk := q.1 (stp q.1 n - 1)
def tss (n : Nat) (bud : Int) : Nat → Tkg → Tkg
  | 0, q => q
  | k + 1, q => if stp q.1 n = 0 then q else if bud < q.2.1 + cst q.1 (nG (bst q n)) (nB (bst q n)) n then q else tss n bud k (fun j => tkS (nG (bst q n)) (nB (bst q n)) (q.1 j), q.2.1 + cst q.1 (nG (bst q n)) (nB (bst q n)) n, nG (bst q n), nB (bst q n))
/-- a block in good order -/
def wfB (b : Blk) : Prop := okB b ∧ bC b 0 = 0 ∧ (∀ i, i < bS b → bC b i < bC b (i + 1) ∧ bC b (i + 1) ≤ bP b) ∧ (bT b < bS b → bL b = bC b (bT b))
theorem wfB.mo {b : Blk} (h : wfB b) (ht : bT b < bS b) : bB b (bC b (bT b)) ≤ bB b (bC b (bT b + 1)) := by
  obtain ⟨⟨-, -, -, -, -, -, -, h8⟩, -, h2, -⟩ := h
  have z := h2 _ ht
  exact h8 _ _ (by omega) z.2
theorem wfB_rst {b : Blk} (h : wfB b) : wfB (rst b) := ⟨okB_rst h.1, h.2.1, h.2.2.1, fun _ => h.2.1.symm⟩
theorem wfB_tka {b : Blk} (h : wfB b) : wfB (tka b) := ⟨okB_tka h.1, h.2.1, h.2.2.1, fun z => absurd z (Nat.lt_irrefl _)⟩
theorem wfB_tkn {b : Blk} (h : wfB b) (ht : bT b < bS b) : wfB (tkn b) := ⟨⟨h.1.1, h.1.2.1, ht, (h.2.2.1 _ ht).2, h.1.2.2.2.2⟩, h.2.1, h.2.2.1, fun _ => rfl⟩
theorem wfB_tkS {b : Blk} {sg sb : Int} (h : wfB b) : wfB (tkS sg sb b) := by
  unfold tkS
  split
  · rename_i z
    exact wfB_tkn h z.1
  · exact h
theorem nB_bd {b : Blk} (h : wfB b) : (bT b < bS b → 0 ≤ nB b) ∧ nB b ≤ 65535 ∧ -65970697666560 ≤ nG b ∧ nG b ≤ 65970697666560 := by
  obtain ⟨⟨-, -, -, -, -, h6, h7, -⟩, -⟩ := id h
  have a1 := h6 (bC b (bT b + 1))
  have a2 := h6 (bC b (bT b))
  have a3 := h7 (bC b (bT b + 1))
  have a4 := h7 (bC b (bT b))
  refine ⟨fun ht => ?_, ?_, ?_, ?_⟩
  · have := h.mo ht
    show 0 ≤ bB b (bC b (bT b + 1)) - bB b (bC b (bT b))
    omega
  · show bB b (bC b (bT b + 1)) - bB b (bC b (bT b)) ≤ _
    omega
  · show _ ≤ bG b (bC b (bT b + 1)) - bG b (bC b (bT b))
    omega
  · show bG b (bC b (bT b + 1)) - bG b (bC b (bT b)) ≤ _
    omega
theorem sm_congr {f g : Nat → Int} : ∀ {n : Nat}, (∀ i, i < n → f i = g i) → sm f n = sm g n
  | 0, _ => rfl
  | n + 1, h => by
    unfold sm
    rw [sm_congr (fun i hi => h i (Nat.lt_succ_of_lt hi)), h n (Nat.lt_succ_self n)]
theorem sm_bd {f : Nat → Int} {c : Int} : ∀ {n : Nat}, (∀ i, i < n → 0 ≤ f i ∧ f i ≤ c) → 0 ≤ sm f n ∧ sm f n ≤ c * n
  | 0, _ => ⟨Int.le_refl 0, by show (0 : Int) ≤ c * ((0 : Nat) : Int); simp⟩
  | n + 1, h => by
    have a := sm_bd (fun i hi => h i (Nat.lt_succ_of_lt hi))
    have b := h n (Nat.lt_succ_self n)
    have e : c * ((n + 1 : Nat) : Int) = c * n + c := by
      rw [Int.natCast_add, Int.mul_add]
      simp
    unfold sm
    rw [e]
    omega
theorem cst_bd {bs : Nat → Blk} {sg sb : Int} {n : Nat} (h : ∀ i, i < n → wfB (bs i)) : 0 ≤ cst bs sg sb n ∧ cst bs sg sb n ≤ 65535 * n := by
  refine sm_bd (fun i hi => ?_)
  have z := nB_bd (h i hi)
  show 0 ≤ (if eqS sg sb (bs i) then nB (bs i) else 0) ∧ (if eqS sg sb (bs i) then nB (bs i) else 0) ≤ _
  split
  · rename_i y
    exact ⟨z.1 y.1, z.2.1⟩
  · exact ⟨Int.le_refl 0, by decide⟩
/-- bytes of all blocks up to their cuts -/
def totB (bs : Nat → Blk) (n : Nat) : Int := sm (fun j => bB (bs j) (bL (bs j))) n
theorem totB_bd {bs : Nat → Blk} {n : Nat} (h : ∀ i, i < n → wfB (bs i)) : 0 ≤ totB bs n ∧ totB bs n ≤ 65535 * n := by
  refine sm_bd (fun i hi => ?_)
  obtain ⟨⟨-, -, -, -, -, h6, -⟩, -⟩ := h i hi
  exact h6 _
theorem totB_tkS {bs : Nat → Blk} {sg sb : Int} : ∀ {n : Nat}, (∀ i, i < n → wfB (bs i)) → totB (fun j => tkS sg sb (bs j)) n = totB bs n + cst bs sg sb n
  | 0, _ => rfl
  | n + 1, h => by
    have a := totB_tkS (sg := sg) (sb := sb) (fun i hi => h i (Nat.lt_succ_of_lt hi))
    have b := h n (Nat.lt_succ_self n)
    unfold totB cst at a ⊢
    unfold sm
    rw [a]
    have e : bB (tkS sg sb (bs n)) (bL (tkS sg sb (bs n))) = bB (bs n) (bL (bs n)) + (if eqS sg sb (bs n) then nB (bs n) else 0) := by
      unfold tkS
      split
      · rename_i z
        show bB (bs n) (bC (bs n) (bT (bs n) + 1)) = bB (bs n) (bL (bs n)) + (bB (bs n) (bC (bs n) (bT (bs n) + 1)) - bB (bs n) (bC (bs n) (bT (bs n))))
        rw [b.2.2.2 z.1]
        omega
      · omega
    show _ + bB (tkS sg sb (bs n)) (bL (tkS sg sb (bs n))) = _
    rw [e]
    omega
theorem cst_t {bs : Nat → Blk} {sg sb : Int} {i : Nat} (h : eqS sg sb (bs i)) : cst bs sg sb (i + 1) = cst bs sg sb i + nB (bs i) := by
  show _ + (if eqS sg sb (bs i) then nB (bs i) else 0) = _
  rw [if_pos h]
  rfl
theorem cst_f {bs : Nat → Blk} {sg sb : Int} {i : Nat} (h : ¬ eqS sg sb (bs i)) : cst bs sg sb (i + 1) = cst bs sg sb i := by
  show _ + (if eqS sg sb (bs i) then nB (bs i) else 0) = _
  rw [if_neg h]
  exact Int.add_zero _
theorem upto_stay {f : Blk → Blk} {bs : Nat → Blk} {i : Nat} (h : f (bs i) = bs i) : upto f bs (i + 1) = upto f bs i := by
  rw [← upto_succ, h]
  funext j
  by_cases e : j = i
  · subst e
    rw [va_up_self, upto_at]
  · rw [va_up_ne _ _ e]
theorem tkS_t {sg sb : Int} {b : Blk} (h : eqS sg sb b) : tkS sg sb b = tkn b := if_pos h
theorem tkS_f {sg sb : Int} {b : Blk} (h : ¬ eqS sg sb b) : tkS sg sb b = b := if_neg h
theorem tss_0 {n k : Nat} {bud : Int} {q : Tkg} (h : stp q.1 n = 0) : tss n bud (k + 1) q = q := if_pos h
theorem tss_b {n k si : Nat} {bud : Int} {q : Tkg} (h : stp q.1 n = si + 1) (h2 : bud < q.2.1 + cst q.1 (nG (q.1 si)) (nB (q.1 si)) n) : tss n bud (k + 1) q = q := by
  have e : bst q n = q.1 si := by show q.1 (stp q.1 n - 1) = _; rw [h]; rfl
  unfold tss
  rw [if_neg (by omega), e, if_pos h2]
theorem tss_s {n k si : Nat} {bud : Int} {q : Tkg} (h : stp q.1 n = si + 1) (h2 : ¬ bud < q.2.1 + cst q.1 (nG (q.1 si)) (nB (q.1 si)) n) : tss n bud (k + 1) q = tss n bud k (fun j => tkS (nG (q.1 si)) (nB (q.1 si)) (q.1 j), q.2.1 + cst q.1 (nG (q.1 si)) (nB (q.1 si)) n, nG (q.1 si), nB (q.1 si)) := by
  have e : bst q n = q.1 si := by show q.1 (stp q.1 n - 1) = _; rw [h]; rfl
  conv => lhs; unfold tss
  rw [if_neg (by omega), e, if_neg h2]
def layQ (n N : Nat) (bud : Int) (bs : Nat → Blk) (tb : Int) : Tkg := if bud = -1 then (fun j => tka (bs j), sm (fun j => bB (bs j) (bP (bs j))) n, -1, -1) else tss n bud N (bs, tb, -1, -1)
