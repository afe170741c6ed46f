/-! WHAT A BLOCK IS: B, G: bytes and gains up to a pass; C: corners; P, S, T, L: passes, steps, steps taken, last cut -/
abbrev Blk : Type := (Nat → Int) × (Nat → Int) × (Nat → Nat) × Nat × Nat × Nat × Nat
abbrev bB (b : Blk) : Nat → Int := b.1
abbrev bG (b : Blk) : Nat → Int := b.2.1
abbrev bC (b : Blk) : Nat → Nat := b.2.2.1
abbrev bP (b : Blk) : Nat := b.2.2.2.1
abbrev bS (b : Blk) : Nat := b.2.2.2.2.1
abbrev bT (b : Blk) : Nat := b.2.2.2.2.2.1
abbrev bL (b : Blk) : Nat := b.2.2.2.2.2.2
def isBk (D : va_G) (h : gH) (a : Nat) (b : Blk) : Prop := ∃ p1 p2 p3 : Nat, h a = some ((1, 0), .inr (1, [.ref p1, .ref p2, .ref p3, .int (iZ (bP b)), .int (iZ (bS b)), .int (iZ (bT b)), .int (iZ (bL b))])) ∧ h p1 = some ((11, a), gI D 121 (bB b)) ∧ h p2 = some ((12, a), gL D 121 (bG b)) ∧ h p3 = some ((13, a), gI D 121 (fun j => ((bC b j : Nat) : Int)))
/-- its numbers are small -/
def okB (b : Blk) : Prop := bP b ≤ 120 ∧ bS b ≤ bP b ∧ bT b ≤ bS b ∧ bL b ≤ bP b ∧ (∀ j, bC b j ≤ 120) ∧ (∀ j, 0 ≤ bB b j ∧ bB b j ≤ 65535) ∧ (∀ j, -32985348833280 ≤ bG b j ∧ bG b j ≤ 32985348833280) ∧ (∀ i j, i ≤ j → j ≤ bP b → bB b i ≤ bB b j)
theorem mul_ok {g n : Int} (h1 : -65970697666560 ≤ g) (h2 : g ≤ 65970697666560) (h3 : 0 ≤ n) (h4 : n ≤ 65535) : l_ok (g * n) := by
  have a1 : g * n ≤ 65970697666560 * 65535 := by
    have b1 : g * n ≤ 65970697666560 * n := Int.mul_le_mul_of_nonneg_right h2 h3
    omega
  have a2 : -(65970697666560 * 65535) ≤ g * n := by
    have b1 : -65970697666560 * n ≤ g * n := Int.mul_le_mul_of_nonneg_right h1 h3
    omega
  exact ⟨by omega, by omega⟩
/-- all cells stay but those that P names -/
def kp (P : Nat → Nat × Nat → Prop) (h h' : gH) : Prop := ∀ (q : Nat) (x : gE), h q = some x → ¬ P q x.1 → h' q = some x
theorem kp_rf {P : Nat → Nat × Nat → Prop} {h : gH} : kp P h h := fun _ _ h _ => h
theorem kp_tr {P : Nat → Nat × Nat → Prop} {h1 h2 h3 : gH} (a : kp P h1 h2) (b : kp P h2 h3) : kp P h1 h3 := fun q x hq hn => b q x (a q x hq hn) hn
theorem kp_mo {P P' : Nat → Nat × Nat → Prop} {h1 h2 : gH} (a : kp P h1 h2) (hp : ∀ q t, P q t → P' q t) : kp P' h1 h2 := fun q x hq hn => a q x hq (fun z => hn (hp q _ z))
theorem kp_up {P : Nat → Nat × Nat → Prop} {h0 h h1 : gH} {a : Nat} {x y : gE} (hk : kp P h0 h) (e : h1 = g_up h a x) (ha : h a = some y) (hp : P a y.1) : kp P h0 h1 := by
  intro q z hq hn
  have h2 := hk q z hq hn
  by_cases hqa : q = a
  · subst hqa
    cases ha.symm.trans h2
    exact absurd hp hn
  · rw [e, g_un hqa]
    exact h2
theorem kp_new {P : Nat → Nat × Nat → Prop} {h0 h h1 : gH} {a : Nat} {x : gE} (hk : kp P h0 h) (e : h1 = g_up h a x) (ha : h a = none) : kp P h0 h1 := by
  intro q z hq hn
  have h2 := hk q z hq hn
  rw [e, g_un (g_nz h2 ha)]
  exact h2
/-- what a block's own methods may change -/
def P_Bk (a : Nat) : Nat → Nat × Nat → Prop := fun q t => q = a ∨ (t.2 = a ∧ 11 ≤ t.1 ∧ t.1 ≤ 13)
/-- a block elsewhere stays -/
theorem isBk.kp {D : va_G} {h h' : gH} {a : Nat} {b : Blk} {P : Nat → Nat × Nat → Prop} (hb : isBk D h a b) (hk : kp P h h') (h1 : ¬ P a (1, 0)) (h2 : ∀ q k, 11 ≤ k → k ≤ 13 → ¬ P q (k, a)) : isBk D h' a b := by
  obtain ⟨p1, p2, p3, fA, fB, fG, fC⟩ := hb
  exact ⟨p1, p2, p3, hk _ _ fA h1, hk _ _ fB (h2 _ _ (by decide) (by decide)), hk _ _ fG (h2 _ _ (by decide) (by decide)), hk _ _ fC (h2 _ _ (by decide) (by decide))⟩
theorem cmpZ_ge {a b : Int} : 0 ≤ cmpZ a b ↔ b ≤ a := by
  unfold cmpZ
  split
  · omega
  · split <;> omega
theorem cmpZ_gt {a b : Int} : 0 < cmpZ a b ↔ b < a := by
  unfold cmpZ
  split
  · omega
  · split <;> omega
theorem cmpZ_eq {a b : Int} : cmpZ a b = 0 ↔ a = b := by
  unfold cmpZ
  split
  · omega
  · split <;> omega
/-- the newest pass is at least as good an end of step s -/
abbrev ovt (b : Blk) (s : Nat) : Prop := 0 < bG b (bP b) - bG b (bC b s) ∧ (bG b (bC b (s + 1)) - bG b (bC b s)) * (bB b (bP b) - bB b (bC b s)) ≤ (bG b (bP b) - bG b (bC b s)) * (bB b (bC b (s + 1)) - bB b (bC b s))
def kept (b : Blk) : Nat → Nat
  | 0 => 0
  | n + 1 => if ovt b n then kept b n else n + 1
theorem kept_le (b : Blk) : ∀ n, kept b n ≤ n
  | 0 => Nat.le_refl 0
  | n + 1 => by
    unfold kept
    split
    · exact Nat.le_succ_of_le (kept_le b n)
    · exact Nat.le_refl _
def renew (b : Blk) : Blk := if bG b (bC b (kept b (bS b))) < bG b (bP b) then (bB b, bG b, va_up (bC b) (kept b (bS b) + 1) (bP b), bP b, kept b (bS b) + 1, bT b, bL b) else (bB b, bG b, bC b, bP b, kept b (bS b), bT b, bL b)
theorem va_up_c (f : Nat → Nat) (k n : Nat) : va_up (fun j => ((f j : Nat) : Int)) k (n : Int) = fun j => ((va_up f k n j : Nat) : Int) := by
  funext j
  by_cases h : j = k <;> simp [va_up, h]
/-- a pass more, its steps not yet renewed -/
abbrev grown (b : Blk) (n g : Int) : Blk := (va_up (bB b) (bP b + 1) (bB b (bP b) + n), va_up (bG b) (bP b + 1) (bG b (bP b) + g), bC b, bP b + 1, bS b, bT b, bL b)
theorem kept_t {b : Blk} {n : Nat} (h : ovt b n) : kept b (n + 1) = kept b n := if_pos h
theorem kept_f {b : Blk} {n : Nat} (h : ¬ ovt b n) : kept b (n + 1) = n + 1 := if_neg h
/-- A LAYER: number of blocks, cuts, bytes, threshold's gain and bytes -/
abbrev Lay : Type := Nat × (Nat → Int) × Int × Int × Int
def isLy (D : va_G) (h : gH) (a : Nat) (y : Lay) : Prop := ∃ p1 : Nat, h a = some ((2, 0), .inr (2, [.ref p1, .int (iZ y.2.2.1), .long (lZ y.2.2.2.1), .int (iZ y.2.2.2.2)])) ∧ h p1 = some ((15, a), gI D y.1 y.2.1)
