/-! THE REFERENCE'S STATE: thrown, blocks, all, used, layers; passes, begins, bytes, gains, cuts, totals, lastGain, lastBytes, cut, next -/
abbrev Mdl : Type := Int × Int × Int × Int × Int × (Nat → Int) × (Nat → Int) × (Nat → Int) × (Nat → Int) × (Nat → Int) × (Nat → Int) × (Nat → Int) × (Nat → Int) × (Nat → Int) × (Nat → Int)
abbrev mT (M : Mdl) : Int := M.1
abbrev mN (M : Mdl) : Int := M.2.1
abbrev mA (M : Mdl) : Int := M.2.2.1
abbrev mU (M : Mdl) : Int := M.2.2.2.1
abbrev mY (M : Mdl) : Int := M.2.2.2.2.1
abbrev aP (M : Mdl) : Nat → Int := M.2.2.2.2.2.1
abbrev aB (M : Mdl) : Nat → Int := M.2.2.2.2.2.2.1
abbrev aY (M : Mdl) : Nat → Int := M.2.2.2.2.2.2.2.1
abbrev aG (M : Mdl) : Nat → Int := M.2.2.2.2.2.2.2.2.1
abbrev aC (M : Mdl) : Nat → Int := M.2.2.2.2.2.2.2.2.2.1
abbrev aT (M : Mdl) : Nat → Int := M.2.2.2.2.2.2.2.2.2.2.1
abbrev aL (M : Mdl) : Nat → Int := M.2.2.2.2.2.2.2.2.2.2.2.1
abbrev aM (M : Mdl) : Nat → Int := M.2.2.2.2.2.2.2.2.2.2.2.2.1
abbrev aK (M : Mdl) : Nat → Int := M.2.2.2.2.2.2.2.2.2.2.2.2.2.1
abbrev aX (M : Mdl) : Nat → Int := M.2.2.2.2.2.2.2.2.2.2.2.2.2.2
def isMD (D : va_G) (h : gH) (a : Nat) (M : Mdl) : Prop := ∃ p3 p4 p6 p7 p9 p10 p11 p12 p13 p14 : Nat,
  h a = some ((20, 0), .inr (4, [.int (iZ (mT M)), .int (iZ (mN M)), .int (iZ (mA M)), .ref p3, .ref p4, .int (iZ (mU M)), .ref p6, .ref p7, .int (iZ (mY M)), .ref p9, .ref p10, .ref p11, .ref p12, .ref p13, .ref p14])) ∧
  h p3 = some ((21, a), gI D 1024 (aP M)) ∧ h p4 = some ((22, a), gI D 1024 (aB M)) ∧ h p6 = some ((23, a), gI D 17408 (aY M)) ∧ h p7 = some ((24, a), gL D 17408 (aG M)) ∧ h p9 = some ((25, a), gI D 65536 (aC M)) ∧ h p10 = some ((26, a), gI D 64 (aT M)) ∧ h p11 = some ((27, a), gL D 64 (aL M)) ∧ h p12 = some ((28, a), gI D 64 (aM M)) ∧ h p13 = some ((29, a), gI D 1024 (aK M)) ∧ h p14 = some ((30, a), gI D 1024 (aX M))
def P_MD : Nat → Nat × Nat → Prop := fun _ t => 20 ≤ t.1 ∧ t.1 ≤ 39
theorem isMD.kp {D : va_G} {h h' : gH} {a : Nat} {M : Mdl} {P : Nat → Nat × Nat → Prop} (hm : isMD D h a M) (hk : kp P h h') (hn : ∀ (q : Nat) (t : Nat × Nat), 20 ≤ t.1 → t.1 ≤ 39 → ¬ P q t) : isMD D h' a M := by
  obtain ⟨p3, p4, p6, p7, p9, p10, p11, p12, p13, p14, f0, f3, f4, f6, f7, f9, f10, f11, f12, f13, f14⟩ := hm
  have w : ∀ (q k x : Nat) (e : va_E), h q = some ((k, x), e) → 20 ≤ k → k ≤ 39 → h' q = some ((k, x), e) := fun q k x e hq h1 h2 => hk _ _ hq (hn _ _ h1 h2)
  exact ⟨p3, p4, p6, p7, p9, p10, p11, p12, p13, p14, w _ _ _ _ f0 (by decide) (by decide), w _ _ _ _ f3 (by decide) (by decide), w _ _ _ _ f4 (by decide) (by decide), w _ _ _ _ f6 (by decide) (by decide), w _ _ _ _ f7 (by decide) (by decide), w _ _ _ _ f9 (by decide) (by decide), w _ _ _ _ f10 (by decide) (by decide), w _ _ _ _ f11 (by decide) (by decide), w _ _ _ _ f12 (by decide) (by decide), w _ _ _ _ f13 (by decide) (by decide), w _ _ _ _ f14 (by decide) (by decide)⟩
/-- where a block begins in the reference's rows -/
def beg (bs : Nat → Blk) : Nat → Nat
  | 0 => 0
  | n + 1 => beg bs n + bP (bs n) + 1
theorem beg_le (bs : Nat → Blk) {b : Nat} : ∀ {n : Nat}, b ≤ n → beg bs b ≤ beg bs n
  | 0, h => by rw [Nat.le_zero.mp h]; exact Nat.le_refl _
  | n + 1, h => by
    by_cases e : b = n + 1
    · rw [e]; exact Nat.le_refl _
    · have := beg_le bs (show b ≤ n by omega)
      show _ ≤ beg bs n + bP (bs n) + 1
      omega
theorem beg_lt (bs : Nat → Blk) {b n : Nat} (h : b < n) : beg bs b + bP (bs b) < beg bs n := by
  have := beg_le bs (show b + 1 ≤ n from h)
  have e : beg bs (b + 1) = beg bs b + bP (bs b) + 1 := rfl
  omega
/-- the reference holds these blocks -/
def mV (M : Mdl) (n : Nat) (bs : Nat → Blk) : Prop := mN M = n ∧ n ≤ 1024 ∧ mU M = beg bs n ∧ beg bs n ≤ n + 16384 ∧ ∀ b, b < n → aP M b = bP (bs b) ∧ aB M b = beg bs b ∧ ∀ k, k ≤ bP (bs b) → aY M (beg bs b + k) = bB (bs b) k ∧ aG M (beg bs b + k) = bG (bs b) k
/-- .. these layers -/
def mL (M : Mdl) (n yn : Nat) (ys : Nat → Lay) : Prop := mY M = yn ∧ yn ≤ 64 ∧ ∀ j, j < yn → aT M j = (ys j).2.2.1 ∧ aL M j = (ys j).2.2.2.1 ∧ aM M j = (ys j).2.2.2.2 ∧ ∀ b, b < n → aC M (1024 * j + b) = (ys j).2.1 b
def eN (k : Nat) : Int := if k = 0 then -1 else k
/-- the end of a step from j, looked for up to k; 0: none -/
def sfr (b : Blk) (j : Nat) : Nat → Nat
  | 0 => 0
  | k + 1 => if j < k + 1 ∧ 0 < bG b (k + 1) - bG b j ∧ (sfr b j k = 0 ∨ (bG b (sfr b j k) - bG b j) * (bB b (k + 1) - bB b j) ≤ (bG b (k + 1) - bG b j) * (bB b (sfr b j k) - bB b j)) then k + 1 else sfr b j k
theorem sfr_t {b : Blk} {j k : Nat} (h1 : j < k + 1) (h2 : 0 < bG b (k + 1) - bG b j) (h3 : sfr b j k = 0 ∨ (bG b (sfr b j k) - bG b j) * (bB b (k + 1) - bB b j) ≤ (bG b (k + 1) - bG b j) * (bB b (sfr b j k) - bB b j)) : sfr b j (k + 1) = k + 1 := if_pos ⟨h1, h2, h3⟩
theorem sfr_f {b : Blk} {j k : Nat} (h : ¬ (j < k + 1 ∧ 0 < bG b (k + 1) - bG b j ∧ (sfr b j k = 0 ∨ (bG b (sfr b j k) - bG b j) * (bB b (k + 1) - bB b j) ≤ (bG b (k + 1) - bG b j) * (bB b (sfr b j k) - bB b j)))) : sfr b j (k + 1) = sfr b j k := if_neg h
theorem sfr_0 {b : Blk} {j : Nat} : ∀ {k : Nat}, k ≤ j → sfr b j k = 0
  | 0, _ => rfl
  | k + 1, h => (sfr_f (fun z => by omega)).trans (sfr_0 (Nat.le_of_succ_le h))
theorem sfr_le {b : Blk} {j : Nat} : ∀ {k : Nat}, sfr b j k ≤ k
  | 0 => Nat.le_refl 0
  | k + 1 => by
    unfold sfr
    split
    · exact Nat.le_refl _
    · exact Nat.le_succ_of_le sfr_le
theorem sfr_gt {b : Blk} {j : Nat} : ∀ {k : Nat}, sfr b j k ≠ 0 → j < sfr b j k ∧ bG b j < bG b (sfr b j k)
  | 0, h => absurd rfl h
  | k + 1, h => by
    unfold sfr at h ⊢
    split
    · rename_i z
      exact ⟨z.1, by have := z.2.1; omega⟩
    · rename_i z
      rw [if_neg z] at h
      exact sfr_gt h
/-- the corners are those of the steps -/
def chn (b : Blk) : Prop := (∀ s, s < bS b → sfr b (bC b s) (bP b) = bC b (s + 1)) ∧ sfr b (bC b (bS b)) (bP b) = 0
theorem sfr_congr {b b' : Blk} (h1 : bB b = bB b') (h2 : bG b = bG b') (j : Nat) : ∀ k, sfr b j k = sfr b' j k
  | 0 => rfl
  | k + 1 => by
    unfold sfr
    rw [sfr_congr h1 h2 j k, h1, h2]
theorem chn_congr {b b' : Blk} (h : chn b) (h1 : bB b = bB b') (h2 : bG b = bG b') (h3 : bC b = bC b') (h4 : bP b = bP b') (h5 : bS b = bS b') : chn b' := by
  unfold chn at h ⊢
  rw [← h3, ← h4, ← h5]
  exact ⟨fun s hs => (sfr_congr h1 h2 _ _).symm.trans (h.1 s hs), (sfr_congr h1 h2 _ _).symm.trans h.2⟩
/-- a block in good order, and its steps the right ones -/
def wfC (b : Blk) : Prop := wfB b ∧ chn b ∧ (bT b = bS b → bL b = bC b (bS b) ∨ bL b = bP b) ∧ (∀ j, j ≤ bP b → -(274877906944 * (j : Int)) ≤ bG b j ∧ bG b j ≤ 274877906944 * (j : Int)) ∧ bB b 0 = 0 ∧ bG b 0 = 0
theorem wfC.up {b : Blk} (h : wfC b) {s : Nat} (hs : s < bS b) : bG b (bC b s) < bG b (bC b (s + 1)) := by
  have e := h.2.1.1 s hs
  have z := (h.1.2.2.1 s hs).1
  have y := sfr_gt (b := b) (j := bC b s) (k := bP b) (by rw [e]; omega)
  rw [e] at y
  exact y.2
theorem wfC.cle {b : Blk} (h : wfC b) {s : Nat} (hs : s ≤ bS b) : bC b s ≤ bP b := by
  cases s with
  | zero => rw [h.1.2.1]; exact Nat.zero_le _
  | succ s => exact (h.1.2.2.1 s hs).2
theorem wfC.nx {b : Blk} (h : wfC b) : sfr b (bL b) (bP b) = if bT b < bS b then bC b (bT b + 1) else 0 := by
  by_cases z : bT b < bS b
  · rw [if_pos z, h.1.2.2.2 z]
    exact h.2.1.1 _ z
  · rw [if_neg z]
    have e : bT b = bS b := by have := h.1.1.2.2.1; omega
    rcases h.2.2.1 e with y | y
    · rw [y]; exact h.2.1.2
    · rw [y]; exact sfr_0 (Nat.le_refl _)
theorem wfC_rst {b : Blk} (h : wfC b) : wfC (rst b) := ⟨wfB_rst h.1, chn_congr h.2.1 rfl rfl rfl rfl rfl, fun z => Or.inl (by
  have e : 0 = bS b := z
  show 0 = bC b (bS b)
  rw [← e]
  exact h.1.2.1.symm), h.2.2.2⟩
theorem wfC_tka {b : Blk} (h : wfC b) : wfC (tka b) := ⟨wfB_tka h.1, chn_congr h.2.1 rfl rfl rfl rfl rfl, fun _ => Or.inr rfl, h.2.2.2⟩
theorem wfC_tkn {b : Blk} (h : wfC b) (ht : bT b < bS b) : wfC (tkn b) := ⟨wfB_tkn h.1 ht, chn_congr h.2.1 rfl rfl rfl rfl rfl, fun z => Or.inl (by
  have e : bT b + 1 = bS b := z
  show bC b (bT b + 1) = bC b (bS b)
  rw [e]), h.2.2.2⟩
theorem wfC_tkS {b : Blk} {sg sb : Int} (h : wfC b) : wfC (tkS sg sb b) := by
  unfold tkS
  split
  · rename_i z
    exact wfC_tkn h z.1
  · exact h
/-- the reference's cut and next of these blocks -/
def cV (M : Mdl) (n : Nat) (bs : Nat → Blk) : Prop := ∀ b, b < n → aK M b = bL (bs b) ∧ aX M b = if bT (bs b) < bS (bs b) then (bC (bs b) (bT (bs b) + 1) : Int) else -1
abbrev mKX (M : Mdl) (k x : Nat → Int) : Mdl := (mT M, mN M, mA M, mU M, mY M, aP M, aB M, aY M, aG M, aC M, aT M, aL M, aM M, k, x)
abbrev mLM (M : Mdl) (g b : Nat → Int) : Mdl := (mT M, mN M, mA M, mU M, mY M, aP M, aB M, aY M, aG M, aC M, aT M, g, b, aK M, aX M)
theorem beg_congr {bs bs' : Nat → Blk} : ∀ {n : Nat}, (∀ i, i < n → bP (bs i) = bP (bs' i)) → beg bs n = beg bs' n
  | 0, _ => rfl
  | n + 1, h => by
    unfold beg
    rw [beg_congr (fun i hi => h i (Nat.lt_succ_of_lt hi)), h n (Nat.lt_succ_self n)]
theorem mV_congr {M : Mdl} {n : Nat} {bs bs' : Nat → Blk} (h : mV M n bs) (hb : ∀ i, i < n → bB (bs i) = bB (bs' i) ∧ bG (bs i) = bG (bs' i) ∧ bP (bs i) = bP (bs' i)) : mV M n bs' := by
  obtain ⟨h1, h2, h3, h4, h5⟩ := h
  have e : ∀ b, b ≤ n → beg bs b = beg bs' b := fun b hbn => beg_congr (fun i hi => (hb i (by omega)).2.2)
  refine ⟨h1, h2, by rw [← e n (Nat.le_refl _)]; exact h3, by rw [← e n (Nat.le_refl _)]; exact h4, fun b hbn => ?_⟩
  obtain ⟨a1, a2, a3⟩ := h5 b hbn
  obtain ⟨q1, q2, q3⟩ := hb b hbn
  rw [← e b (by omega), ← q1, ← q2, ← q3]
  exact ⟨a1, a2, a3⟩
theorem tkS_BGP (sg sb : Int) (b : Blk) : bB (tkS sg sb b) = bB b ∧ bG (tkS sg sb b) = bG b ∧ bP (tkS sg sb b) = bP b := by
  unfold tkS
  split <;> exact ⟨rfl, rfl, rfl⟩
theorem cV_congr {M : Mdl} {n : Nat} {bs bs' : Nat → Blk} (h : cV M n bs) (hb : ∀ i, i < n → bs i = bs' i) : cV M n bs' := fun b hbn => by
  rw [← hb b hbn]
  exact h b hbn
theorem cV_goOn {M : Mdl} {n b : Nat} {bs : Nat → Blk} (h : cV M n bs) (hb : b < n) (hw : wfC (bs b)) (ht : hN (bs b)) : cV (mKX M (va_up (aK M) b (bC (bs b) (bT (bs b) + 1))) (va_up (aX M) b (eN (sfr (bs b) (bC (bs b) (bT (bs b) + 1)) (bP (bs b)))))) n (va_up bs b (tkn (bs b))) := by
  intro i hi
  show va_up (aK M) b (bC (bs b) (bT (bs b) + 1)) i = _ ∧ va_up (aX M) b (eN (sfr (bs b) (bC (bs b) (bT (bs b) + 1)) (bP (bs b)))) i = _
  by_cases e : i = b
  · subst e
    rw [va_up_self, va_up_self, va_up_self]
    refine ⟨rfl, ?_⟩
    show eN (sfr (bs i) (bC (bs i) (bT (bs i) + 1)) (bP (bs i))) = if bT (bs i) + 1 < bS (bs i) then (bC (bs i) (bT (bs i) + 1 + 1) : Int) else -1
    by_cases z : bT (bs i) + 1 < bS (bs i)
    · rw [if_pos z, hw.2.1.1 _ z]
      have y := hw.1.2.2.1 _ z
      show (if _ then _ else _) = _
      rw [if_neg (by omega)]
    · have ht' : bT (bs i) < bS (bs i) := ht
      rw [if_neg z, show bT (bs i) + 1 = bS (bs i) by omega, hw.2.1.2]
      rfl
  · rw [va_up_ne _ _ e, va_up_ne _ _ e, va_up_ne _ _ e]
    exact h i hi
/-- blocks below i but y have gone on -/
def uT (sg sb : Int) (y : Nat) (bs : Nat → Blk) (i : Nat) : Nat → Blk := fun j => if j < i ∧ j ≠ y then tkS sg sb (bs j) else bs j
theorem uT_0 {sg sb : Int} {y : Nat} {bs : Nat → Blk} : uT sg sb y bs 0 = bs := funext fun j => if_neg (fun z => Nat.not_lt_zero _ z.1)
theorem uT_at {sg sb : Int} {y i : Nat} {bs : Nat → Blk} : uT sg sb y bs i i = bs i := if_neg (fun z => Nat.lt_irrefl _ z.1)
theorem uT_y {sg sb : Int} {y i : Nat} {bs : Nat → Blk} : uT sg sb y bs i y = bs y := if_neg (fun z => z.2 rfl)
theorem uT_stay {sg sb : Int} {y i : Nat} {bs : Nat → Blk} (h : i = y ∨ tkS sg sb (bs i) = bs i) : uT sg sb y bs (i + 1) = uT sg sb y bs i := by
  funext j
  unfold uT
  by_cases e : j = i
  · subst e
    rw [show (if j < j ∧ j ≠ y then tkS sg sb (bs j) else bs j) = bs j from if_neg (fun z => Nat.lt_irrefl _ z.1)]
    rcases h with h | h
    · rw [if_neg (fun z => z.2 h)]
    · rw [h]
      split <;> rfl
  · by_cases z : j < i ∧ j ≠ y
    · rw [if_pos z, if_pos ⟨by omega, z.2⟩]
    · rw [if_neg z, if_neg (fun w => z ⟨by omega, w.2⟩)]
theorem uT_go {sg sb : Int} {y i : Nat} {bs : Nat → Blk} (h : i ≠ y) (h2 : eqS sg sb (bs i)) : va_up (uT sg sb y bs i) i (tkn (uT sg sb y bs i i)) = uT sg sb y bs (i + 1) := by
  rw [uT_at]
  funext j
  by_cases e : j = i
  · subst e
    rw [va_up_self]
    unfold uT
    rw [if_pos ⟨Nat.lt_succ_self _, h⟩, tkS_t h2]
  · rw [va_up_ne _ _ e]
    unfold uT
    by_cases z : j < i ∧ j ≠ y
    · rw [if_pos z, if_pos ⟨by omega, z.2⟩]
    · rw [if_neg z, if_neg (fun w => z ⟨by omega, w.2⟩)]
theorem uT_BGP {sg sb : Int} {y i j : Nat} {bs : Nat → Blk} : bB (bs j) = bB (uT sg sb y bs i j) ∧ bG (bs j) = bG (uT sg sb y bs i j) ∧ bP (bs j) = bP (uT sg sb y bs i j) := by
  unfold uT
  split
  · have z := tkS_BGP sg sb (bs j)
    exact ⟨z.1.symm, z.2.1.symm, z.2.2.symm⟩
  · exact ⟨rfl, rfl, rfl⟩
theorem uT_wf {sg sb : Int} {y i j : Nat} {bs : Nat → Blk} (h : wfC (bs j)) : wfC (uT sg sb y bs i j) := by
  unfold uT
  split
  · exact wfC_tkS h
  · exact h
theorem eqS_self {b : Blk} (h : hN b) : eqS (nG b) (nB b) b := ⟨h, cmpZ_eq.mpr rfl⟩
theorem uT_fin {y n j : Nat} {bs : Nat → Blk} (hy : hN (bs y)) (hj : j < n) : va_up (uT (nG (bs y)) (nB (bs y)) y bs n) y (tkn (uT (nG (bs y)) (nB (bs y)) y bs n y)) j = tkS (nG (bs y)) (nB (bs y)) (bs j) := by
  rw [uT_y]
  by_cases e : j = y
  · subst e
    rw [va_up_self, tkS_t (eqS_self hy)]
  · rw [va_up_ne _ _ e]
    unfold uT
    rw [if_pos ⟨hj, e⟩]
