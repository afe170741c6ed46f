/-! A PASS MORE: the steps that the class renews are the right ones -/
theorem sfr_agree {b b' : Blk} {K j : Nat} (h : ∀ i, i ≤ K → bB b i = bB b' i ∧ bG b i = bG b' i) (hj : j ≤ K) : ∀ k, k ≤ K → sfr b j k = sfr b' j k
  | 0, _ => rfl
  | k + 1, hk => by
    have ih := sfr_agree h hj k (by omega)
    have e1 := h j hj
    have e2 := h (k + 1) hk
    have e3 := h (sfr b' j k) (Nat.le_trans sfr_le (by omega))
    unfold sfr
    rw [ih, e1.1, e1.2, e2.1, e2.2, e3.1, e3.2]
theorem sfr_opt {b : Blk} {j : Nat} : ∀ {k : Nat}, sfr b j k ≠ 0 → ∀ i, sfr b j k < i → i ≤ k → 0 < bG b i - bG b j → (bG b i - bG b j) * (bB b (sfr b j k) - bB b j) < (bG b (sfr b j k) - bG b j) * (bB b i - bB b j)
  | 0, h => absurd rfl h
  | k + 1, h => by
    intro i h1 h2 h3
    by_cases z : j < k + 1 ∧ 0 < bG b (k + 1) - bG b j ∧ (sfr b j k = 0 ∨ (bG b (sfr b j k) - bG b j) * (bB b (k + 1) - bB b j) ≤ (bG b (k + 1) - bG b j) * (bB b (sfr b j k) - bB b j))
    · rw [sfr_t z.1 z.2.1 z.2.2] at h1
      omega
    · rw [sfr_f z] at h h1 ⊢
      by_cases e : i = k + 1
      · subst e
        have hg := sfr_gt h
        have w : ¬ (sfr b j k = 0 ∨ (bG b (sfr b j k) - bG b j) * (bB b (k + 1) - bB b j) ≤ (bG b (k + 1) - bG b j) * (bB b (sfr b j k) - bB b j)) := fun w => z ⟨by omega, h3, w⟩
        have w2 := fun y => w (Or.inr y)
        exact Int.not_le.mp w2
      · exact sfr_opt h i h1 (by omega) h3
theorem dn_1 {x1 y1 x2 y2 x y : Int} (hx1 : 0 < x1) (hx2 : 0 < x2) (hy1 : 0 ≤ y1) (hy2 : 0 ≤ y2) (hy : y2 ≤ y) (hs : x2 * y1 < x1 * y2) (hn : ¬ (0 < x ∧ x2 * y ≤ x * y2)) : ¬ x1 * y ≤ x * y1 := by
  intro h
  by_cases hx : 0 < x
  · have a1 : x * y2 < x2 * y := by
      rcases Int.lt_or_le (x * y2) (x2 * y) with z | z
      · exact z
      · exact absurd ⟨hx, z⟩ hn
    have a2 : 0 ≤ x * y2 := Int.mul_nonneg (Int.le_of_lt hx) hy2
    have a3 : 0 < y := by
      rcases Int.lt_or_le 0 y with z | z
      · exact z
      · have : x2 * y ≤ x2 * 0 := Int.mul_le_mul_of_nonneg_left z (Int.le_of_lt hx2)
        rw [Int.mul_zero] at this
        omega
    have a4 : 0 < y2 := by
      rcases Int.lt_or_le 0 y2 with z | z
      · exact z
      · obtain rfl : y2 = 0 := by omega
        have := Int.mul_nonneg (Int.le_of_lt hx2) hy1
        rw [Int.mul_zero] at hs
        omega
    have b1 : x1 * y * y2 ≤ x * y1 * y2 := Int.mul_le_mul_of_nonneg_right h (Int.le_of_lt a4)
    have b2 : x * y2 * y1 ≤ x2 * y * y1 := Int.mul_le_mul_of_nonneg_right (Int.le_of_lt a1) hy1
    have b3 : x2 * y1 * y < x1 * y2 * y := Int.mul_lt_mul_of_pos_right hs a3
    have c1 : x * y1 * y2 = x * y2 * y1 := Int.mul_right_comm x y1 y2
    have c2 : x2 * y * y1 = x2 * y1 * y := Int.mul_right_comm x2 y y1
    have c3 : x1 * y * y2 = x1 * y2 * y := Int.mul_right_comm x1 y y2
    omega
  · have b1 : x * y1 ≤ 0 * y1 := Int.mul_le_mul_of_nonneg_right (by omega) hy1
    rw [Int.zero_mul] at b1
    have b2 : y ≤ 0 := by
      rcases Int.lt_or_le 0 y with z | z
      · have := Int.mul_pos hx1 z
        omega
      · exact z
    obtain rfl : y2 = 0 := by omega
    have := Int.mul_nonneg (Int.le_of_lt hx2) hy1
    rw [Int.mul_zero] at hs
    omega
theorem kept_sp (b : Blk) : ∀ n, (kept b n < n → ovt b (kept b n)) ∧ (0 < kept b n → ¬ ovt b (kept b n - 1))
  | 0 => ⟨fun h => absurd h (Nat.lt_irrefl _), fun h => absurd h (Nat.lt_irrefl _)⟩
  | n + 1 => by
    by_cases z : ovt b n
    · rw [kept_t z]
      have ih := kept_sp b n
      refine ⟨fun h => ?_, ih.2⟩
      by_cases y : kept b n < n
      · exact ih.1 y
      · have := kept_le b n
        rw [show kept b n = n by omega]
        exact z
    · rw [kept_f z]
      exact ⟨fun h => absurd h (Nat.lt_irrefl _), fun _ => z⟩
theorem wfC_new : wfC newB := by
  refine ⟨⟨⟨by decide, by decide, by decide, by decide, fun j => by show 0 ≤ 120; omega, fun j => ⟨by show (0 : Int) ≤ 0; omega, by show (0 : Int) ≤ 65535; omega⟩, fun j => ⟨by show (-32985348833280 : Int) ≤ 0; omega, by show (0 : Int) ≤ 32985348833280; omega⟩, fun i j _ _ => Int.le_refl _⟩, rfl, fun i hi => absurd hi (Nat.not_lt_zero _), fun _ => rfl⟩, ⟨fun s hs => absurd hs (Nat.not_lt_zero _), rfl⟩, fun _ => Or.inl rfl, fun j hj => ?_, rfl, rfl⟩
  have hj' : j ≤ 0 := hj
  show -(274877906944 * (j : Int)) ≤ 0 ∧ (0 : Int) ≤ 274877906944 * (j : Int)
  omega
section RN
variable {b : Blk} {n g : Int}
theorem rn_le {k : Nat} (h : k ≤ bP b) : bB (grown (rst b) n g) k = bB b k ∧ bG (grown (rst b) n g) k = bG b k := by
  show va_up (bB b) (bP b + 1) _ k = _ ∧ va_up (bG b) (bP b + 1) _ k = _
  rw [va_up_ne _ _ (by omega), va_up_ne _ _ (by omega)]
  exact ⟨rfl, rfl⟩
theorem rn_new : bB (grown (rst b) n g) (bP b + 1) = bB b (bP b) + n ∧ bG (grown (rst b) n g) (bP b + 1) = bG b (bP b) + g := by
  show va_up (bB b) (bP b + 1) _ (bP b + 1) = _ ∧ va_up (bG b) (bP b + 1) _ (bP b + 1) = _
  rw [va_up_self, va_up_self]
  exact ⟨rfl, rfl⟩
theorem rn_ok (hw : wfC b) (hP : bP b < 120) (hn : 0 ≤ n) (hr : n + bB b (bP b) ≤ 65535) (h1 : -274877906944 ≤ g) (h2 : g ≤ 274877906944) : okB (grown (rst b) n g) := by
  obtain ⟨⟨⟨k1, k2, k3, k4, k5, k6, k7, k8⟩, -⟩, -, -, w4, -⟩ := hw
  have hG := w4 (bP b) (Nat.le_refl _)
  have hB := k6 (bP b)
  refine ⟨by show bP b + 1 ≤ 120; omega, by show bS b ≤ bP b + 1; omega, Nat.zero_le _, Nat.zero_le _, k5, fun j => ?_, fun j => ?_, fun i j hij hj => ?_⟩
  · show 0 ≤ va_up (bB b) (bP b + 1) (bB b (bP b) + n) j ∧ va_up (bB b) (bP b + 1) (bB b (bP b) + n) j ≤ 65535
    by_cases e : j = bP b + 1
    · rw [e, va_up_self]; omega
    · rw [va_up_ne _ _ e]; exact k6 j
  · show -32985348833280 ≤ va_up (bG b) (bP b + 1) (bG b (bP b) + g) j ∧ va_up (bG b) (bP b + 1) (bG b (bP b) + g) j ≤ 32985348833280
    by_cases e : j = bP b + 1
    · rw [e, va_up_self]; omega
    · rw [va_up_ne _ _ e]; exact k7 j
  · have hj' : j ≤ bP b + 1 := hj
    by_cases e : j = bP b + 1
    · rw [e, rn_new.1]
      by_cases e2 : i = bP b + 1
      · rw [e2, rn_new.1]; exact Int.le_refl _
      · rw [(rn_le (by omega)).1]
        have := k8 i (bP b) (by omega) (Nat.le_refl _)
        omega
    · rw [(rn_le (by omega)).1, (rn_le (by omega)).1]
      exact k8 i j hij (by omega)
theorem rn_mo (hw : wfC b) (ho : okB (grown (rst b) n g)) : ∀ j, j < bS b → bB (grown (rst b) n g) (bC b j) ≤ bB (grown (rst b) n g) (bC b (j + 1)) ∧ bB (grown (rst b) n g) (bC b j) ≤ bB (grown (rst b) n g) (bP b + 1) := by
  intro j hj
  have z := hw.1.2.2.1 j hj
  have k8 := ho.2.2.2.2.2.2.2
  exact ⟨k8 _ _ (by omega) (by show _ ≤ bP b + 1; omega), k8 _ _ (by omega) (Nat.le_refl _)⟩
theorem rn_old (hw : wfC b) {s : Nat} (hs : s ≤ bS b) : sfr (grown (rst b) n g) (bC b s) (bP b) = if s < bS b then bC b (s + 1) else 0 := by
  rw [sfr_agree (b' := b) (fun i hi => rn_le hi) (hw.cle hs) (bP b) (Nat.le_refl _)]
  by_cases z : s < bS b
  · rw [if_pos z]; exact hw.2.1.1 s z
  · rw [if_neg z, show s = bS b by omega]; exact hw.2.1.2
theorem rn_ovt (hw : wfC b) {s : Nat} (hs : s < bS b) : sfr (grown (rst b) n g) (bC b s) (bP b + 1) = if ovt (grown (rst b) n g) s then bP b + 1 else bC b (s + 1) := by
  have e := rn_old (n := n) (g := g) hw (Nat.le_of_lt hs)
  rw [if_pos hs] at e
  have z := hw.1.2.2.1 s hs
  by_cases y : ovt (grown (rst b) n g) s
  · rw [if_pos y]
    exact sfr_t (by omega) y.1 (Or.inr (by rw [e]; exact y.2))
  · rw [if_neg y, ← e]
    refine sfr_f (fun w => y ⟨w.2.1, ?_⟩)
    rcases w.2.2 with q | q
    · omega
    · rw [e] at q; exact q
theorem rn_end (hw : wfC b) : sfr (grown (rst b) n g) (bC b (bS b)) (bP b + 1) = if bG (grown (rst b) n g) (bC b (bS b)) < bG (grown (rst b) n g) (bP b + 1) then bP b + 1 else 0 := by
  have e := rn_old (n := n) (g := g) hw (Nat.le_refl _)
  rw [if_neg (Nat.lt_irrefl _)] at e
  have z := hw.cle (Nat.le_refl _)
  by_cases y : bG (grown (rst b) n g) (bC b (bS b)) < bG (grown (rst b) n g) (bP b + 1)
  · rw [if_pos y]
    exact sfr_t (by omega) (by omega) (Or.inl e)
  · rw [if_neg y, ← e]
    exact sfr_f (fun w => by have := w.2.1; omega)
/-- a step that stays: so do those before it -/
theorem rn_down (hw : wfC b) (ho : okB (grown (rst b) n g)) {s : Nat} (hs : s + 1 < bS b) (hn : ¬ ovt (grown (rst b) n g) (s + 1)) : ¬ ovt (grown (rst b) n g) s := by
  have z1 := hw.1.2.2.1 s (by omega)
  have z2 := hw.1.2.2.1 (s + 1) hs
  have u1 := hw.up (show s < bS b by omega)
  have u2 := hw.up hs
  have k8 := hw.1.1.2.2.2.2.2.2.2
  have m1 := k8 (bC b s) (bC b (s + 1)) (by omega) (by omega)
  have m2 := k8 (bC b (s + 1)) (bC b (s + 1 + 1)) (by omega) (by omega)
  have m3 := ho.2.2.2.2.2.2.2 (bC b (s + 1 + 1)) (bP b + 1) (by omega) (Nat.le_refl _)
  have a0 := rn_le (b := b) (n := n) (g := g) (k := bC b s) (by omega)
  have a1 := rn_le (b := b) (n := n) (g := g) (k := bC b (s + 1)) (by omega)
  have a2 := rn_le (b := b) (n := n) (g := g) (k := bC b (s + 1 + 1)) (by omega)
  have e1 := hw.2.1.1 s (by omega)
  have opt := sfr_opt (b := b) (j := bC b s) (k := bP b) (by rw [e1]; omega) (bC b (s + 1 + 1)) (by rw [e1]; omega) z2.2 (by omega)
  rw [e1] at opt
  intro hov
  have o1 := hov.1
  have o2 := hov.2
  have hn' := hn
  unfold ovt at hn'
  have ec : ∀ j, bC (grown (rst b) n g) j = bC b j := fun _ => rfl
  have ep : bP (grown (rst b) n g) = bP b + 1 := rfl
  rw [ec, ep] at o1
  rw [ec, ec, ep, a0.1, a0.2, a1.1, a1.2] at o2
  rw [ec, ec, ep, a1.1, a1.2, a2.1, a2.2] at hn'
  rw [a2.1] at m3
  rw [a0.2] at o1
  generalize bG (grown (rst b) n g) (bP b + 1) = GN at *
  generalize bB (grown (rst b) n g) (bP b + 1) = BN at *
  generalize bG b (bC b s) = G0 at *
  generalize bG b (bC b (s + 1)) = G1 at *
  generalize bG b (bC b (s + 1 + 1)) = G2 at *
  generalize bB b (bC b s) = B0 at *
  generalize bB b (bC b (s + 1)) = B1 at *
  generalize bB b (bC b (s + 1 + 1)) = B2 at *
  have hs' : (G2 - G1) * (B1 - B0) < (G1 - G0) * (B2 - B1) := by
    have e3 : (G2 - G0) * (B1 - B0) = (G2 - G1) * (B1 - B0) + (G1 - G0) * (B1 - B0) := by rw [← Int.add_mul, show G2 - G1 + (G1 - G0) = G2 - G0 by omega]
    have e4 : (G1 - G0) * (B2 - B0) = (G1 - G0) * (B2 - B1) + (G1 - G0) * (B1 - B0) := by rw [← Int.mul_add, show B2 - B1 + (B1 - B0) = B2 - B0 by omega]
    omega
  refine dn_1 (x1 := G1 - G0) (y1 := B1 - B0) (x2 := G2 - G1) (y2 := B2 - B1) (x := GN - G1) (y := BN - B1) (by omega) (by omega) (by omega) (by omega) (by omega) hs' hn' ?_
  have e3 : (GN - G0) * (B1 - B0) = (GN - G1) * (B1 - B0) + (G1 - G0) * (B1 - B0) := by rw [← Int.add_mul, show GN - G1 + (G1 - G0) = GN - G0 by omega]
  have e4 : (G1 - G0) * (BN - B0) = (G1 - G0) * (BN - B1) + (G1 - G0) * (B1 - B0) := by rw [← Int.mul_add, show BN - B1 + (B1 - B0) = BN - B0 by omega]
  omega
theorem rn_stay (hw : wfC b) (ho : okB (grown (rst b) n g)) : ∀ (d s : Nat), s + d + 1 = kept (grown (rst b) n g) (bS b) → ¬ ovt (grown (rst b) n g) s
  | 0, s, h => by
    have z := (kept_sp (grown (rst b) n g) (bS b)).2 (by omega)
    rw [show kept (grown (rst b) n g) (bS b) - 1 = s by omega] at z
    exact z
  | d + 1, s, h => by
    have hk := kept_le (grown (rst b) n g) (bS b)
    exact rn_down hw ho (by omega) (rn_stay hw ho d (s + 1) (by omega))
theorem wfC_pass (hw : wfC b) (hP : bP b < 120) (hn : 0 ≤ n) (hr : n + bB b (bP b) ≤ 65535) (h1 : -274877906944 ≤ g) (h2 : g ≤ 274877906944) : wfC (renew (grown (rst b) n g)) := by
  have ho := rn_ok hw hP hn hr h1 h2
  obtain ⟨o1, o2, o3, o4, o5, o6, o7, o8⟩ := id ho
  have hk := kept_le (grown (rst b) n g) (bS b)
  have hsp := kept_sp (grown (rst b) n g) (bS b)
  have hst : ∀ s, s < kept (grown (rst b) n g) (bS b) → ¬ ovt (grown (rst b) n g) s := fun s hs => rn_stay hw ho (kept (grown (rst b) n g) (bS b) - s - 1) s (by omega)
  have hS := hw.1.1.2.1
  have hG : ∀ j, j ≤ bP b + 1 → -(274877906944 * (j : Int)) ≤ bG (grown (rst b) n g) j ∧ bG (grown (rst b) n g) j ≤ 274877906944 * (j : Int) := fun j hj => by
    by_cases e : j = bP b + 1
    · subst e
      rw [rn_new.2]
      have z := hw.2.2.2.1 (bP b) (Nat.le_refl _)
      omega
    · rw [(rn_le (by omega)).2]
      exact hw.2.2.2.1 j (by omega)
  have hB0 : bB (grown (rst b) n g) 0 = 0 ∧ bG (grown (rst b) n g) 0 = 0 := by
    have z := rn_le (b := b) (n := n) (g := g) (Nat.zero_le _)
    rw [z.1, z.2]
    exact hw.2.2.2.2
  have hc0 := hw.1.2.1
  generalize hK : kept (grown (rst b) n g) (bS b) = K at hk hsp hst
  have hKP : bC b K ≤ bP b := hw.cle hk
  unfold renew
  rw [show bS (grown (rst b) n g) = bS b from rfl, hK]
  split
  · rename_i hgt
    have hgt' : bG (grown (rst b) n g) (bC b K) < bG (grown (rst b) n g) (bP b + 1) := hgt
    refine ⟨⟨⟨o1, by show K + 1 ≤ bP b + 1; omega, Nat.zero_le _, Nat.zero_le _, fun j => ?_, o6, o7, o8⟩, ?_, fun i hi => ?_, fun hi => ?_⟩, ⟨fun s hs => ?_, ?_⟩, fun z => ?_, hG, hB0⟩
    · show va_up (bC b) (K + 1) (bP b + 1) j ≤ 120
      by_cases e : j = K + 1
      · rw [e, va_up_self]; omega
      · rw [va_up_ne _ _ e]; exact o5 j
    · show va_up (bC b) (K + 1) (bP b + 1) 0 = 0
      rw [va_up_ne _ _ (by omega)]; exact hc0
    · show va_up (bC b) (K + 1) (bP b + 1) i < va_up (bC b) (K + 1) (bP b + 1) (i + 1) ∧ va_up (bC b) (K + 1) (bP b + 1) (i + 1) ≤ bP b + 1
      have hi' : i < K + 1 := hi
      by_cases e : i = K
      · subst e
        rw [va_up_self, va_up_ne _ _ (by omega)]
        omega
      · rw [va_up_ne _ _ (by omega), va_up_ne _ _ (by omega)]
        have z := hw.1.2.2.1 i (by omega)
        omega
    · show 0 = va_up (bC b) (K + 1) (bP b + 1) 0
      rw [va_up_ne _ _ (by omega)]; exact hc0.symm
    · have hs' : s < K + 1 := hs
      show sfr _ (va_up (bC b) (K + 1) (bP b + 1) s) (bP b + 1) = va_up (bC b) (K + 1) (bP b + 1) (s + 1)
      refine (sfr_congr (b := (bB (grown (rst b) n g), bG (grown (rst b) n g), va_up (bC (grown (rst b) n g)) (K + 1) (bP (grown (rst b) n g)), bP (grown (rst b) n g), K + 1, bT (grown (rst b) n g), bL (grown (rst b) n g))) (b' := grown (rst b) n g) rfl rfl _ _).trans ?_
      rw [va_up_ne _ _ (by omega)]
      by_cases e : s = K
      · subst e
        rw [va_up_self]
        by_cases e2 : s < bS b
        · rw [rn_ovt hw e2, if_pos (hsp.1 e2)]
        · rw [show s = bS b by omega] at hgt' ⊢
          rw [rn_end hw, if_pos hgt']
      · rw [va_up_ne _ _ (by omega), rn_ovt hw (by omega), if_neg (hst s (by omega))]
    · show sfr _ (va_up (bC b) (K + 1) (bP b + 1) (K + 1)) (bP b + 1) = 0
      rw [va_up_self]
      exact sfr_0 (Nat.le_refl _)
    · have z' : 0 = K + 1 := z
      omega
  · rename_i hgt
    have hgt' : ¬ bG (grown (rst b) n g) (bC b K) < bG (grown (rst b) n g) (bP b + 1) := hgt
    have hKS : K = bS b := by
      by_cases e : K < bS b
      · have z := (hsp.1 e).1
        have z' : 0 < bG (grown (rst b) n g) (bP b + 1) - bG (grown (rst b) n g) (bC b K) := z
        omega
      · omega
    subst hKS
    refine ⟨⟨⟨o1, by show bS b ≤ bP b + 1; omega, Nat.zero_le _, Nat.zero_le _, o5, o6, o7, o8⟩, hc0, fun i hi => ?_, fun _ => hc0.symm⟩, ⟨fun s hs => ?_, ?_⟩, fun z => ?_, hG, hB0⟩
    · have z := hw.1.2.2.1 i hi
      exact ⟨z.1, by show bC b (i + 1) ≤ bP b + 1; omega⟩
    · show sfr _ (bC b s) (bP b + 1) = bC b (s + 1)
      refine (sfr_congr (b' := grown (rst b) n g) rfl rfl _ _).trans ?_
      rw [rn_ovt hw hs, if_neg (hst s hs)]
    · show sfr _ (bC b (bS b)) (bP b + 1) = 0
      refine (sfr_congr (b' := grown (rst b) n g) rfl rfl _ _).trans ?_
      rw [rn_end hw, if_neg hgt']
    · have z' : 0 = bS b := z
      refine Or.inl ?_
      show 0 = bC b (bS b)
      rw [← z']
      exact hc0.symm
end RN
