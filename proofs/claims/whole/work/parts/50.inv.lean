/-! WHAT HOLDS BETWEEN THE CALLS: n blocks bs, yn layers ys, pn passes, tb bytes taken; M: the reference -/
def INV (n : Nat) (bs : Nat → Blk) (yn : Nat) (ys : Nat → Lay) (pn tb : Int) (M : Mdl) : Prop :=
  (∀ i, i < n → wfC (bs i)) ∧ mV M n bs ∧ mL M n yn ys ∧ (mA M = pn ∧ mA M + n = beg bs n) ∧ tb = totB bs n ∧ (yn = 0 → tb = 0 ∧ ∀ i, i < n → bT (bs i) = 0 ∧ bL (bs i) = 0) ∧
  (∀ j, j < yn → (ys j).1 = n ∧ i_ok (ys j).2.2.1 ∧ i_ok (ys j).2.2.2.2 ∧ l_ok (ys j).2.2.2.1 ∧ ∀ b, b < n → i_ok ((ys j).2.1 b)) ∧ (0 < yn → ∀ b, b < n → (ys (yn - 1)).2.1 b = bL (bs b))
theorem totB_0 {bs : Nat → Blk} : ∀ {n : Nat}, (∀ i, i < n → bL (bs i) = 0 ∧ bB (bs i) 0 = 0) → totB bs n = 0
  | 0, _ => rfl
  | n + 1, h => by
    have a := totB_0 (fun i hi => h i (Nat.lt_succ_of_lt hi))
    have b := h n (Nat.lt_succ_self n)
    show totB bs n + bB (bs n) (bL (bs n)) = 0
    rw [a, b.1, b.2]
    rfl
theorem INV.t {n yn : Nat} {bs : Nat → Blk} {ys : Nat → Lay} {pn tb t : Int} {M : Mdl} (h : INV n bs yn ys pn tb M) : INV n bs yn ys pn tb (t, M.2) := h
theorem INV.pn {n yn : Nat} {bs : Nat → Blk} {ys : Nat → Lay} {pn tb : Int} {M : Mdl} (h : INV n bs yn ys pn tb M) : 0 ≤ pn ∧ pn ≤ 16384 ∧ n ≤ 1024 ∧ yn ≤ 64 := by
  obtain ⟨-, ⟨-, h2, -, h4, -⟩, ⟨-, h5, -⟩, ⟨h6, h7⟩, -⟩ := h
  have h8 : ∀ k : Nat, k ≤ beg bs k := fun k => by
    induction k with
    | zero => exact Nat.zero_le _
    | succ k ih => show k + 1 ≤ beg bs k + bP (bs k) + 1; omega
  have h9 := h8 n
  omega
theorem INV_clear (bs : Nat → Blk) (ys : Nat → Lay) (M : Mdl) : INV 0 bs 0 ys 0 0 (0, 0, 0, 0, 0, M.2.2.2.2.2) :=
  ⟨fun i hi => absurd hi (Nat.not_lt_zero _), ⟨rfl, by decide, rfl, by show beg bs 0 ≤ 0 + 16384; exact Nat.zero_le _, fun b hb => absurd hb (Nat.not_lt_zero _)⟩, ⟨rfl, by decide, fun j hj => absurd hj (Nat.not_lt_zero _)⟩, ⟨rfl, rfl⟩, rfl, fun _ => ⟨rfl, fun i hi => absurd hi (Nat.not_lt_zero _)⟩, fun j hj => absurd hj (Nat.not_lt_zero _), fun h => absurd h (Nat.lt_irrefl _)⟩
theorem INV_block {n yn : Nat} {bs : Nat → Blk} {ys : Nat → Lay} {pn tb : Int} {M : Mdl} (h : INV n bs yn ys pn tb M) (hn : n < 1024) :
    INV (n + 1) (va_up (fun j => rst (bs j)) n newB) 0 ys pn 0 (0, mN M + 1, mA M, mU M + 1, 0, va_up (aP M) n 0, va_up (aB M) n (mU M), va_up (aY M) (beg bs n) 0, va_up (aG M) (beg bs n) 0, aC M, aT M, aL M, aM M, aK M, aX M) := by
  obtain ⟨h1, h2, h3, ⟨h4, h5⟩, h6, h7, h8, h9⟩ := h
  have hT : ∀ i, i < n + 1 → bT (va_up (fun j => rst (bs j)) n newB i) = 0 ∧ bL (va_up (fun j => rst (bs j)) n newB i) = 0 ∧ bB (va_up (fun j => rst (bs j)) n newB i) 0 = 0 := fun i hi => by
    by_cases e : i = n
    · rw [e, va_up_self]
      exact ⟨rfl, rfl, rfl⟩
    · rw [va_up_ne _ _ e]
      exact ⟨rfl, rfl, (h1 i (by omega)).2.2.2.2.1⟩
  have hbeg : beg (va_up (fun j => rst (bs j)) n newB) n = beg bs n := beg_congr (fun i hi => by rw [va_up_ne _ _ (by omega)])
  refine ⟨fun i hi => ?_, mV_congr (mV_block h2 hn) (fun i hi => ?_), ⟨rfl, by decide, fun j hj => absurd hj (Nat.not_lt_zero _)⟩, ⟨h4, ?_⟩, (totB_0 (fun i hi => ⟨(hT i hi).2.1, (hT i hi).2.2⟩)).symm, fun _ => ⟨rfl, fun i hi => ⟨(hT i hi).1, (hT i hi).2.1⟩⟩, fun j hj => absurd hj (Nat.not_lt_zero _), fun h => absurd h (Nat.lt_irrefl _)⟩
  · by_cases e : i = n
    · rw [e, va_up_self]; exact wfC_new
    · rw [va_up_ne _ _ e]; exact wfC_rst (h1 i (by omega))
  · by_cases e : i = n
    · rw [e, va_up_self, va_up_self]; exact ⟨rfl, rfl, rfl⟩
    · rw [va_up_ne _ _ e, va_up_ne _ _ e]; exact ⟨rfl, rfl, rfl⟩
  · show mA M + ((n + 1 : Nat) : Int) = ((beg (va_up (fun j => rst (bs j)) n newB) n + bP (va_up (fun j => rst (bs j)) n newB n) + 1 : Nat) : Int)
    rw [hbeg, va_up_self]
    show mA M + ((n + 1 : Nat) : Int) = ((beg bs n + 0 + 1 : Nat) : Int)
    omega
theorem renew_BGP (b : Blk) : bB (renew b) = bB b ∧ bG (renew b) = bG b ∧ bP (renew b) = bP b ∧ bT (renew b) = bT b ∧ bL (renew b) = bL b := by
  unfold renew
  split <;> exact ⟨rfl, rfl, rfl, rfl, rfl⟩
theorem INV_pass {n yn bi : Nat} {bs : Nat → Blk} {ys : Nat → Lay} {pn tb nn g : Int} {M M' : Mdl} (h : INV n bs yn ys pn tb M) (hb : bi < n) (hP : bP (bs bi) < 120) (hn : 0 ≤ nn) (hr : nn + bB (bs bi) (bP (bs bi)) ≤ 65535) (g1 : -274877906944 ≤ g) (g2 : g ≤ 274877906944)
    (hY : mY M' = 0) (hA : mA M' = mA M + 1) (hv : mV M' n (va_up bs bi (grown (bs bi) nn g))) : INV n (va_up (fun j => rst (bs j)) bi (renew (grown (rst (bs bi)) nn g))) 0 ys (pn + 1) 0 M' := by
  obtain ⟨h1, h2, h3, ⟨h4, h5⟩, h6, h7, h8, h9⟩ := h
  have hR := renew_BGP (grown (rst (bs bi)) nn g)
  have hT : ∀ i, i < n → bT (va_up (fun j => rst (bs j)) bi (renew (grown (rst (bs bi)) nn g)) i) = 0 ∧ bL (va_up (fun j => rst (bs j)) bi (renew (grown (rst (bs bi)) nn g)) i) = 0 ∧ bB (va_up (fun j => rst (bs j)) bi (renew (grown (rst (bs bi)) nn g)) i) 0 = 0 := fun i hi => by
    by_cases e : i = bi
    · subst e
      rw [va_up_self, hR.2.2.2.1, hR.2.2.2.2, hR.1]
      refine ⟨rfl, rfl, ?_⟩
      rw [(rn_le (Nat.zero_le _)).1]
      exact (h1 i hi).2.2.2.2.1
    · rw [va_up_ne _ _ e]
      exact ⟨rfl, rfl, (h1 i hi).2.2.2.2.1⟩
  have hbeg : beg (va_up (fun j => rst (bs j)) bi (renew (grown (rst (bs bi)) nn g))) n = beg bs n + 1 := by
    have z := beg_up (bs := fun j => rst (bs j)) (bi := bi) (k := renew (grown (rst (bs bi)) nn g)) (by rw [hR.2.2.1]) (n := n)
    rw [if_neg (by omega)] at z
    rw [z]
    exact congrArg (fun q => q + 1) (beg_congr (bs := fun j => rst (bs j)) (bs' := bs) (fun i hi => rfl))
  refine ⟨fun i hi => ?_, mV_congr hv (fun i hi => ?_), ⟨hY, by decide, fun j hj => absurd hj (Nat.not_lt_zero _)⟩, ⟨by rw [hA, h4], by rw [hA, hbeg]; omega⟩, (totB_0 (fun i hi => ⟨(hT i hi).2.1, (hT i hi).2.2⟩)).symm, fun _ => ⟨rfl, fun i hi => ⟨(hT i hi).1, (hT i hi).2.1⟩⟩, fun j hj => absurd hj (Nat.not_lt_zero _), fun h => absurd h (Nat.lt_irrefl _)⟩
  · by_cases e : i = bi
    · subst e
      rw [va_up_self]
      exact wfC_pass (h1 i hi) hP hn hr g1 g2
    · rw [va_up_ne _ _ e]; exact wfC_rst (h1 i hi)
  · by_cases e : i = bi
    · subst e
      rw [va_up_self, va_up_self, hR.1, hR.2.1, hR.2.2.1]
      exact ⟨rfl, rfl, rfl⟩
    · rw [va_up_ne _ _ e, va_up_ne _ _ e]; exact ⟨rfl, rfl, rfl⟩
theorem INV_layer {n yn N : Nat} {bs : Nat → Blk} {ys : Nat → Lay} {pn tb bud : Int} {M : Mdl} {QQ : Tkg} {cf C' k x : Nat → Int} (h : INV n bs yn ys pn tb M) (hy : yn < 64) (hQ : QQ = layQ n N bud bs tb) (hcf : ∀ j, j < n → cf j = bL (QQ.1 j)) (hC1 : ∀ b, b < n → C' (1024 * yn + b) = bL (QQ.1 b)) (hC2 : ∀ j, j < 1024 * yn → C' j = aC M j) :
    INV n QQ.1 (yn + 1) (va_up ys yn (n, cf, QQ.2.1, QQ.2.2.1, QQ.2.2.2)) pn QQ.2.1 (0, mN M, mA M, mU M, mY M + 1, aP M, aB M, aY M, aG M, C', va_up (aT M) yn (totB QQ.1 n), va_up (aL M) yn QQ.2.2.1, va_up (aM M) yn QQ.2.2.2, k, x) := by
  have hpn := h.pn
  obtain ⟨h1, h2, ⟨l1, l2, l3⟩, ⟨h4, h5⟩, h6, h7, h8, h9⟩ := h
  have hw : ∀ i, i < n → wfC (QQ.1 i) := by rw [hQ]; exact lay_wfC h1
  have ht : QQ.2.1 = totB QQ.1 n := by rw [hQ]; exact lay_tot h1 h6
  have hth := lay_thr (N := N) (bud := bud) (tb := tb) h1
  rw [← hQ] at hth
  have hbd := totB_bd (fun i hi => (hw i hi).1)
  have hBGP : ∀ i, bB (bs i) = bB (QQ.1 i) ∧ bG (bs i) = bG (QQ.1 i) ∧ bP (bs i) = bP (QQ.1 i) := fun i => by rw [hQ]; exact lay_BGP i
  refine ⟨hw, mV_congr h2 (fun i _ => hBGP i), ⟨?_, by omega, fun j hj => ?_⟩, ⟨h4, ?_⟩, ht, fun z => absurd z (Nat.succ_ne_zero _), fun j hj => ?_, fun _ b hb => ?_⟩
  · show mY M + 1 = _
    rw [l1]
    rfl
  · show va_up (aT M) yn (totB QQ.1 n) j = _ ∧ va_up (aL M) yn QQ.2.2.1 j = _ ∧ va_up (aM M) yn QQ.2.2.2 j = _ ∧ ∀ b, b < n → C' (1024 * j + b) = _
    by_cases e : j = yn
    · subst e
      rw [va_up_self, va_up_self, va_up_self, va_up_self]
      exact ⟨ht.symm, rfl, rfl, fun b hb => by rw [hC1 b hb]; exact (hcf b hb).symm⟩
    · rw [va_up_ne _ _ e, va_up_ne _ _ e, va_up_ne _ _ e, va_up_ne _ _ e]
      obtain ⟨a1, a2, a3, a4⟩ := l3 j (by omega)
      exact ⟨a1, a2, a3, fun b hb => by rw [hC2 _ (by omega)]; exact a4 b hb⟩
  · show mA M + n = _
    rw [h5, beg_congr (fun i _ => (hBGP i).2.2)]
  · by_cases e : j = yn
    · subst e
      rw [va_up_self]
      refine ⟨rfl, ?_, ?_, ?_, fun b hb => ?_⟩
      · show i_ok QQ.2.1
        rw [ht]
        exact ⟨by omega, by omega⟩
      · show i_ok QQ.2.2.2
        exact ⟨by omega, by omega⟩
      · show l_ok QQ.2.2.1
        exact ⟨by omega, by omega⟩
      · show i_ok (cf b)
        rw [hcf b hb]
        have z := (hw b hb).1.1.2.2.2.1
        have y := (hw b hb).1.1.1
        exact ⟨by omega, by omega⟩
    · rw [va_up_ne _ _ e]
      exact h8 j (by omega)
  · show (va_up ys yn _ (yn + 1 - 1)).2.1 b = _
    rw [show yn + 1 - 1 = yn by omega, va_up_self]
    exact hcf b hb
theorem rem_beg {bs : Nat → Blk} : ∀ {n : Nat}, (∀ i, i < n → wfC (bs i)) → rem bs n + n ≤ beg bs n
  | 0, _ => Nat.le_refl 0
  | n + 1, h => by
    have a := rem_beg (fun i hi => h i (Nat.lt_succ_of_lt hi))
    have b := (h n (Nat.lt_succ_self n)).1.1.2.1
    show rem bs n + (bS (bs n) - bT (bs n)) + (n + 1) ≤ beg bs n + bP (bs n) + 1
    omega
