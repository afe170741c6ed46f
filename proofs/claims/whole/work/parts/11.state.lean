/-! WHAT A BLOCK IS: B, G: bytes and gains up to a pass; C: corners; P, S, T, L: passes, steps, steps taken, last cut -/
abbrev Blk : Type := (Nat → Int) × (Nat → Int) × (Nat → Nat) × Nat × Nat × Nat × Nat
abbrev bB (b : Blk) : Nat → Int := b.1
abbrev bG (b : Blk) : Nat → Int := b.2.1
abbrev bC (b : Blk) : Nat → Nat := b.2.2.1
abbrev bP (b : Blk) : Nat := b.2.2.2.1
abbrev bS (b : Blk) : Nat := b.2.2.2.2.1
abbrev bT (b : Blk) : Nat := b.2.2.2.2.2.1
abbrev bL (b : Blk) : Nat := b.2.2.2.2.2.2
def isBk (D : va_G) (h : gH) (a : Nat) (b : Blk) : Prop := ∃ p1 p2 p3 : Nat, h a = some ((1, 0), .inr (1, [.ref p1, .ref p2, .ref p3, .int (iZ (bP b)), .int (iZ (bS b)), .int (iZ (bT b)), .int (iZ (bL b))])) ∧ h p1 = some ((11, a), gI D 121 (bB b)) ∧ h p2 = some ((12, a), gL D 121 (bG b)) ∧ h p3 = some ((13, a), gI D 121 (fun j => ((bC b j : Nat) : Int)))
/-- its numbers are small -/
def okB (b : Blk) : Prop := bP b ≤ 120 ∧ bS b ≤ bP b ∧ bT b ≤ bS b ∧ bL b ≤ bP b ∧ (∀ j, bC b j ≤ 120) ∧ (∀ j, 0 ≤ bB b j ∧ bB b j ≤ 65535) ∧ (∀ j, -32985348833280 ≤ bG b j ∧ bG b j ≤ 32985348833280) ∧ (∀ i j, i ≤ j → j ≤ bP b → bB b i ≤ bB b j)
theorem mul_ok {g n : Int} (h1 : -65970697666560 ≤ g) (h2 : g ≤ 65970697666560) (h3 : 0 ≤ n) (h4 : n ≤ 65535) : l_ok (g * n) := by
  have a1 : g * n ≤ 65970697666560 * 65535 := by
    have b1 : g * n ≤ 65970697666560 * n := Int.mul_le_mul_of_nonneg_right h2 h3
    omega
  have a2 : -(65970697666560 * 65535) ≤ g * n := by
    have b1 : -65970697666560 * n ≤ g * n := Int.mul_le_mul_of_nonneg_right h1 h3
    omega
  exact ⟨by omega, by omega⟩
