/-! the reference's rows after block and pass -/
theorem beg_up {bs : Nat → Blk} {bi : Nat} {k : Blk} (hk : bP k = bP (bs bi) + 1) : ∀ {n : Nat}, beg (va_up bs bi k) n = if n ≤ bi then beg bs n else beg bs n + 1
  | 0 => by rw [if_pos (Nat.zero_le _)]; rfl
  | n + 1 => by
    show beg (va_up bs bi k) n + bP (va_up bs bi k n) + 1 = _
    rw [beg_up hk]
    by_cases h1 : n + 1 ≤ bi
    · rw [if_pos h1, if_pos (by omega), va_up_ne _ _ (by omega)]
      rfl
    · rw [if_neg h1]
      by_cases h2 : n = bi
      · subst h2
        rw [if_pos (Nat.le_refl _), va_up_self, hk]
        show beg bs n + (bP (bs n) + 1) + 1 = beg bs n + bP (bs n) + 1 + 1
        omega
      · rw [if_neg (by omega), va_up_ne _ _ h2]
        show beg bs n + 1 + bP (bs n) + 1 = beg bs n + bP (bs n) + 1 + 1
        omega
theorem mV_pass {M : Mdl} {n bi : Nat} {bs : Nat → Blk} {nn g x0 x1 x2 : Int} {B' Y' G' C1 C2 C3 C4 C5 C6 : Nat → Int} (hv : mV M n bs) (hb : bi < n) (hroom : beg bs n < n + 16384)
    (hB1 : ∀ j, j ≤ bi → B' j = aB M j) (hB2 : ∀ j, bi < j → j < n → B' j = aB M j + 1)
    (hY1 : ∀ j, j ≤ beg bs bi + bP (bs bi) + 1 → Y' j = aY M j ∧ G' j = aG M j) (hY2 : ∀ j, beg bs bi + bP (bs bi) + 1 < j → j ≤ beg bs n → Y' j = aY M (j - 1) ∧ G' j = aG M (j - 1)) :
    mV (x0, mN M, x1, mU M + 1, x2, va_up (aP M) bi (aP M bi + 1), B', va_up Y' (beg bs bi + bP (bs bi) + 1) (Y' (beg bs bi + bP (bs bi)) + nn), va_up G' (beg bs bi + bP (bs bi) + 1) (G' (beg bs bi + bP (bs bi)) + g), C1, C2, C3, C4, C5, C6) n (va_up bs bi (grown (bs bi) nn g)) := by
  obtain ⟨h1, h2, h3, h4, h5⟩ := hv
  have hbe : ∀ m, beg (va_up bs bi (grown (bs bi) nn g)) m = if m ≤ bi then beg bs m else beg bs m + 1 := fun m => beg_up (k := grown (bs bi) nn g) rfl
  have hbn := hbe n
  rw [if_neg (by omega)] at hbn
  have hlt := beg_lt bs hb
  refine ⟨h1, h2, ?_, by rw [hbn]; omega, fun b hbb => ?_⟩
  · show mU M + 1 = _
    rw [hbn, h3]
    omega
  obtain ⟨a1, a2, a3⟩ := h5 b hbb
  show va_up (aP M) bi (aP M bi + 1) b = _ ∧ B' b = _ ∧ ∀ k, k ≤ _ → va_up Y' (beg bs bi + bP (bs bi) + 1) (Y' (beg bs bi + bP (bs bi)) + nn) _ = _ ∧ va_up G' (beg bs bi + bP (bs bi) + 1) (G' (beg bs bi + bP (bs bi)) + g) _ = _
  rw [hbe b]
  by_cases e : b = bi
  · subst e
    rw [if_pos (Nat.le_refl _), va_up_self, va_up_self, hB1 b (Nat.le_refl _), a1]
    refine ⟨rfl, a2, fun k hk => ?_⟩
    have hk' : k ≤ bP (bs b) + 1 := hk
    show _ = va_up (bB (bs b)) (bP (bs b) + 1) (bB (bs b) (bP (bs b)) + nn) k ∧ _ = va_up (bG (bs b)) (bP (bs b) + 1) (bG (bs b) (bP (bs b)) + g) k
    by_cases e2 : k = bP (bs b) + 1
    · subst e2
      have z := hY1 (beg bs b + bP (bs b)) (by omega)
      have y := a3 (bP (bs b)) (Nat.le_refl _)
      rw [show beg bs b + (bP (bs b) + 1) = beg bs b + bP (bs b) + 1 by omega, va_up_self, va_up_self, va_up_self, va_up_self, z.1, z.2, y.1, y.2]
      exact ⟨rfl, rfl⟩
    · rw [va_up_ne _ _ e2, va_up_ne _ _ e2, va_up_ne _ _ (by omega), va_up_ne _ _ (by omega)]
      have z := hY1 (beg bs b + k) (by omega)
      have y := a3 k (by omega)
      rw [z.1, z.2]
      exact y
  · rw [va_up_ne _ _ e, va_up_ne _ _ e]
    by_cases e2 : b < bi
    · have hl2 := beg_lt bs e2
      rw [if_pos (by omega), hB1 b (by omega)]
      refine ⟨a1, a2, fun k hk => ?_⟩
      rw [va_up_ne _ _ (by omega), va_up_ne _ _ (by omega)]
      have z := hY1 (beg bs b + k) (by omega)
      rw [z.1, z.2]
      exact a3 k hk
    · have hl2 := beg_lt bs (show bi < b by omega)
      have hl3 := beg_lt bs hbb
      rw [if_neg (by omega), hB2 b (by omega) hbb, a2]
      refine ⟨a1, by omega, fun k hk => ?_⟩
      rw [va_up_ne _ _ (by omega), va_up_ne _ _ (by omega)]
      have z := hY2 (beg bs b + 1 + k) (by omega) (by omega)
      rw [z.1, z.2, show beg bs b + 1 + k - 1 = beg bs b + k by omega]
      exact a3 k hk
theorem beg_eq {bs bs' : Nat → Blk} {n : Nat} (h : ∀ i, i < n → bP (bs i) = bP (bs' i)) : beg bs n = beg bs' n := beg_congr h
theorem mV_block {M : Mdl} {n : Nat} {bs : Nat → Blk} {x0 x1 x2 : Int} {C1 C2 C3 C4 C5 C6 : Nat → Int} (hv : mV M n bs) (hn : n < 1024) :
    mV (x0, mN M + 1, x1, mU M + 1, x2, va_up (aP M) n 0, va_up (aB M) n (mU M), va_up (aY M) (beg bs n) 0, va_up (aG M) (beg bs n) 0, C1, C2, C3, C4, C5, C6) (n + 1) (va_up bs n newB) := by
  obtain ⟨h1, h2, h3, h4, h5⟩ := hv
  have hbe : ∀ m, m ≤ n → beg (va_up bs n newB) m = beg bs m := fun m hm => beg_congr (fun i hi => by rw [va_up_ne _ _ (by omega)])
  have hbn : beg (va_up bs n newB) (n + 1) = beg bs n + 1 := by
    show beg (va_up bs n newB) n + bP (va_up bs n newB n) + 1 = _
    rw [hbe n (Nat.le_refl _), va_up_self]
    rfl
  refine ⟨?_, by omega, ?_, by rw [hbn]; omega, fun b hbb => ?_⟩
  · show mN M + 1 = _
    rw [h1]
    rfl
  · show mU M + 1 = _
    rw [hbn, h3]
    rfl
  show va_up (aP M) n 0 b = _ ∧ va_up (aB M) n (mU M) b = _ ∧ ∀ k, k ≤ _ → va_up (aY M) (beg bs n) 0 _ = _ ∧ va_up (aG M) (beg bs n) 0 _ = _
  rw [hbe b (by omega)]
  by_cases e : b = n
  · subst e
    rw [va_up_self, va_up_self, va_up_self]
    refine ⟨rfl, h3, fun k hk => ?_⟩
    have hk' : k ≤ 0 := hk
    obtain rfl : k = 0 := by omega
    rw [Nat.add_zero, va_up_self, va_up_self]
    exact ⟨rfl, rfl⟩
  · obtain ⟨a1, a2, a3⟩ := h5 b (by omega)
    have hl := beg_lt bs (show b < n by omega)
    rw [va_up_ne _ _ e, va_up_ne _ _ e, va_up_ne _ _ e]
    refine ⟨a1, a2, fun k hk => ?_⟩
    rw [va_up_ne _ _ (by omega), va_up_ne _ _ (by omega)]
    exact a3 k hk
