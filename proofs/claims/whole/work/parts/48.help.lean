/-- cells of the class's side, and the array of answers -/
def P_LO : Nat → Nat × Nat → Prop := fun _ t => (1 ≤ t.1 ∧ t.1 ≤ 19) ∨ t.1 = 40
theorem kp_LO {h h' : gH} (hk : kp P_LB h h') : kp P_LO h h' := kp_mo hk (fun _ _ z => Or.inl z)
theorem kp_LO_MD {D : va_G} {h h' : gH} {a : Nat} {M : Mdl} (hm : isMD D h a M) (hk : kp P_LO h h') : isMD D h' a M := hm.kp hk (fun q t h1 h2 z => by rcases z with z | z; have := z.2; omega; omega)
theorem LB_out {D : va_G} {h h1 : gH} {x o : Nat} {A Y : List Nat} {bs : Nat → Blk} {ys : Nat → Lay} {pn tb : Int} {e : va_E} {y : gE} (hx : isLB D h x A bs Y ys pn tb) (ho : h o = some ((40, 0), e)) (e1 : h1 = g_up h o y) : isLB D h1 x A bs Y ys pn tb := by
  obtain ⟨bl, yl, hx⟩ := hx
  refine ⟨bl, yl, LBb_kp hx (P := fun _ t => t.1 = 40) (kp_up kp_rf e1 ho rfl) (fun q t _ hc z => ?_)⟩
  rcases hc with w | w | w | w | w | w | w <;> omega
theorem gc_1 {own C : String} {c : Code} {pc st en hpc ct : Nat} {r : List (Nat × Nat × Nat × Nat)} (hxt : c.exceptionTable.toList.map (fun h => (h.startPc, h.endPc, h.handlerPc, h.catchType)) = (st, en, hpc, ct) :: r) (h1 : (decide (st ≤ pc) && decide (pc < en)) = true) (h0 : ct ≠ 0) (hl : Cond.classLink own ct C ∈ lw_tbl) : gCat own c pc C hpc := by
  cases hc : c.exceptionTable.toList with
  | nil => rw [hc] at hxt; cases hxt
  | cons x t =>
    rw [hc] at hxt
    injection hxt with a b
    injection a with a1 a
    injection a with a2 a
    injection a with a3 a4
    refine Or.inl ⟨x, t, hc, ?_, ?_, ?_, a3⟩
    · rw [← a1, ← a2] at h1; exact h1
    · rw [a4]; exact h0
    · rw [a4]; exact hl
theorem gc_2 {own C C' : String} {c : Code} {pc st en hpc ct st2 en2 hpc2 ct2 : Nat} {r : List (Nat × Nat × Nat × Nat)} (hxt : c.exceptionTable.toList.map (fun h => (h.startPc, h.endPc, h.handlerPc, h.catchType)) = (st, en, hpc, ct) :: (st2, en2, hpc2, ct2) :: r) (h1 : (decide (st ≤ pc) && decide (pc < en)) = true) (h0 : ct ≠ 0) (hl : Cond.classLink own ct C' ∈ lw_tbl) (hno : Cond.not (.castable C C') ∈ g_stw) (h2 : (decide (st2 ≤ pc) && decide (pc < en2)) = true) (h02 : ct2 ≠ 0) (hl2 : Cond.classLink own ct2 C ∈ lw_tbl) : gCat own c pc C hpc2 := by
  cases hc : c.exceptionTable.toList with
  | nil => rw [hc] at hxt; cases hxt
  | cons x t =>
    rw [hc] at hxt
    injection hxt with a b
    cases ht : t with
    | nil => rw [ht] at b; cases b
    | cons y t2 =>
      rw [ht] at b hc
      injection b with b0 b9
      injection a with a1 a
      injection a with a2 a
      injection a with a3 a4
      injection b0 with b1 b
      injection b with b2 b
      injection b with b3 b4
      refine Or.inr ⟨x, y, t2, C', hc, ?_, ?_, ?_, hno, ?_, ?_, ?_, b3⟩
      · rw [← a1, ← a2] at h1; exact h1
      · rw [a4]; exact h0
      · rw [a4]; exact hl
      · rw [← b1, ← b2] at h2; exact h2
      · rw [b4]; exact h02
      · rw [b4]; exact hl2

set_option maxHeartbeats 4000000 in
set_option maxRecDepth 100000 in
theorem c_LW_block {D : va_G} {s0 : State} {l : Launch} {h : gH} (B0 : gB D s0) (hfl : l.flags = flags0) {x : Nat} {A Y : List Nat} {bs : Nat → Blk} {ys : Nat → Lay} {pn tb : Int} (hx : isLB D h x A bs Y ys pn tb) (hAl : A.length ≤ 1024) (hYl : Y.length ≤ 64) (hbo : ∀ i, i < A.length → okB (bs i)) (hE : Y.length = 0 → tb = 0 ∧ ∀ i, i < A.length → bT (bs i) = 0 ∧ bL (bs i) = 0) {o : Nat} {g0 : Nat → Int} (fo : h o = some ((40, 0), gL D 1 g0)) : gMetW D s0 l y_LW_block b_LW_block 3 (some .int) [(0, 8, 11, 13)] ({ frames := 8, cells := 5, slots := 1970, locals := 191 } : Room) [.ref x, .ref o] h (fun v h' => (some (.int (iZ 0)) = v ∧ ∃ R : Int, (A.length < 1024 ∧ R = A.length ∧ ∃ b, isLB D h' x (A ++ [b]) (va_up (fun j => rst (bs j)) A.length newB) [] ys pn 0) ∧ h' o = some ((40, 0), gL D 1 (va_up g0 0 R)) ∧ kp P_LO h h') ∨ (some (.int (iZ 1)) = v ∧ ¬ A.length < 1024 ∧ h = h')) := by
  obtain ⟨bl, yl, fX, hA, hY, hbs, hys, hnd, hnd2⟩ := id hx
  obtain ⟨eb, mb, fbl, -⟩ := id hA
  obtain ⟨ey, my, fyl, -⟩ := id hY
  refine g_enterW B0 (by decide) (Nat.le_of_ble_eq_true rfl) (fun p e s m below meth c ls X hxt hnm hl => ?_)
  have hl : lv_has ls 3 [(0, .ref x), (1, .ref o)] := hl
  refine g_1 (fun w => lv_aload_n X.1 X.2.1 d_LW_block_0 rfl (lv_at hl 1 rfl) w) ?_
  refine g_1 (fun w => lv_iconst (v := iZ 0) X.1 X.2.1 d_LW_block_1 rfl w) ?_
  refine g_1 (fun w => lv_aload_n X.1 X.2.1 d_LW_block_2 rfl (lv_at hl 0 rfl) w) ?_
  refine g_callVX (na := 0) X (c_LB_block B0 hfl hx hAl hYl hbo hE) rfl fX rfl ⟨⟨tw_119, tw_1⟩, ⟨by decide, by decide, by decide +kernel⟩, by decide, by decide⟩ tw_116 tw_117 tw_118 rfl hl.1 (Nat.le_of_ble_eq_true rfl) ⟨by decide, by decide⟩ d_LW_block_3 (fun CC h' x0 hp => ?_) (fun v h' hp => ?_)
  · obtain ⟨hbb, rfl⟩ : ((CC = "java/lang/IllegalStateException" ∧ ¬ A.length < 1024)) ∧ h = h' := by
      exact ⟨⟨hp.1, hp.2.1⟩, hp.2.2⟩
    obtain ⟨rfl, hb0⟩ := hbb
    refine ⟨11, gc_1 hxt (by decide) (by decide) tw_115, ?_⟩
    refine g_s (fun kk => lv_astore_n (lv' := [(2, .ref x0), (0, .ref x), (1, .ref o)]) X.1 X.2.1 d_LW_block_11 rfl hl (by decide) rfl kk) (fun ls hl => ?_)
    refine g_1 (fun w => lv_iconst (v := iZ 1) X.1 X.2.1 d_LW_block_12 rfl w) ?_
    exact g_iret X (Or.inr (⟨rfl, hb0, rfl⟩)) (Nat.le_of_ble_eq_true rfl) (Nat.le_of_ble_eq_true rfl) d_LW_block_13
  obtain ⟨hlt, rfl, b, hxR, hkk⟩ := hp
  have hRok : i_ok (A.length : Int) := ⟨by omega, by omega⟩
  have fo2 : h' o = some ((40, 0), gL D 1 g0) := hkk _ _ fo (fun z => absurd z.2 (show ¬ (40 : Nat) ≤ 19 by decide))
  refine g_widen (k' := 0 + 5) (n' := 0 + 1970) (Nat.le_of_ble_eq_true rfl) (Nat.le_of_ble_eq_true rfl) ?_
  show G D s0 p l e _ s m _ below meth c h' _ _ _ (F0 m 6 ls [.int (iZ (A.length)), .int (iZ (0)), .ref o])
  refine g_i2l X (by first | exact hRok | exact ⟨by omega, by omega⟩) d_LW_block_6 ?_
  refine g_lst X fo2 (Nat.succ_ne_zero _) (0) (rfl) (by omega) (by omega) d_LW_block_7 ?_
  obtain ⟨h_1, eh_1⟩ : ∃ z_, z_ = g_up h' o ((40, 0), gL D 1 (va_up (g0) (0) (A.length))) := ⟨_, rfl⟩
  refine g_h (h' := h_1) eh_1.symm ?_
  have f_2 : h_1 o = some ((40, 0), gL D 1 (va_up (g0) (0) (A.length))) := by rw [eh_1]; exact g_us
  have hxo := LB_out hxR fo2 eh_1
  have hko : kp P_LO h h_1 := kp_up (kp_LO hkk) eh_1 fo2 (Or.inr rfl)
  refine g_goto (tgt := 14) X d_LW_block_8 (by decide) ?_
  refine g_1 (fun w => lv_iconst (v := iZ 0) X.1 X.2.1 d_LW_block_14 rfl w) ?_
  exact g_iret X (Or.inl ⟨rfl, A.length, ⟨hlt, rfl, b, hxo⟩, f_2, hko⟩) (Nat.le_of_ble_eq_true rfl) (Nat.le_of_ble_eq_true rfl) d_LW_block_15

set_option maxHeartbeats 4000000 in
set_option maxRecDepth 100000 in
theorem c_LW_pass {D : va_G} {s0 : State} {l : Launch} {h : gH} (B0 : gB D s0) (hfl : l.flags = flags0) {x : Nat} {A Y : List Nat} {bs : Nat → Blk} {ys : Nat → Lay} {pn tb : Int} (hx : isLB D h x A bs Y ys pn tb) (hAl : A.length ≤ 1024) (hYl : Y.length ≤ 64) (hbo : ∀ i, i < A.length → okB (bs i)) (hE : Y.length = 0 → tb = 0 ∧ ∀ i, i < A.length → bT (bs i) = 0 ∧ bL (bs i) = 0) {i n g : Int} (hi : i_ok i) (hn : i_ok n) (hg : l_ok g) (hpn : 0 ≤ pn ∧ pn ≤ 16384) (hap : ∀ b, b < A.length → bP (bs b) < 120 → 0 ≤ n → n + bB (bs b) (bP (bs b)) ≤ 65535 → -274877906944 ≤ g → g ≤ 274877906944 → okB (grown (rst (bs b)) n g) ∧ ∀ j, j < bS (bs b) → bB (grown (rst (bs b)) n g) (bC (bs b) j) ≤ bB (grown (rst (bs b)) n g) (bC (bs b) (j + 1)) ∧ bB (grown (rst (bs b)) n g) (bC (bs b) j) ≤ bB (grown (rst (bs b)) n g) (bP (bs b) + 1)) {o : Nat} {g0 : Nat → Int} (fo : h o = some ((40, 0), gL D 1 g0)) : gMetW D s0 l y_LW_pass b_LW_pass 7 (some .int) [(0, 12, 15, 19), (0, 12, 19, 13)] ({ frames := 7, cells := 1, slots := 6, locals := 142 } : Room) [.ref x, .int (iZ (i)), .int (iZ (n)), .long (lZ (g)), .ref o] h (fun v h' => (some (.int (iZ 0)) = v ∧ ∃ R : Int, (∃ b : Nat, (b : Int) = i ∧ b < A.length ∧ ¬ B_bad A i n g ∧ ¬ B_full (bs b) n pn ∧ R = bP (bs b) + 1 ∧ isLB D h' x A (va_up (fun j => rst (bs j)) b (renew (grown (rst (bs b)) n g))) [] ys (pn + 1) 0) ∧ h' o = some ((40, 0), gL D 1 (va_up g0 0 R)) ∧ kp P_LO h h') ∨ (some (.int (iZ 1)) = v ∧ B_bad A i n g ∧ h = h') ∨ (some (.int (iZ 2)) = v ∧ (¬ B_bad A i n g ∧ ∃ b : Nat, (b : Int) = i ∧ b < A.length ∧ B_full (bs b) n pn) ∧ h = h')) := by
  obtain ⟨bl, yl, fX, hA, hY, hbs, hys, hnd, hnd2⟩ := id hx
  obtain ⟨eb, mb, fbl, -⟩ := id hA
  obtain ⟨ey, my, fyl, -⟩ := id hY
  refine g_enterW B0 (by decide) (Nat.le_of_ble_eq_true rfl) (fun p e s m below meth c ls X hxt hnm hl => ?_)
  have hl : lv_has ls 7 [(0, .ref x), (1, .int (iZ (i))), (2, .int (iZ (n))), (3, .long (lZ (g))), (5, .ref o)] := hl
  refine g_1 (fun w => lv_aload X.1 X.2.1 d_LW_pass_0 (lv_at hl 4 rfl) w) ?_
  refine g_1 (fun w => lv_iconst (v := iZ 0) X.1 X.2.1 d_LW_pass_2 rfl w) ?_
  refine g_1 (fun w => lv_aload_n X.1 X.2.1 d_LW_pass_3 rfl (lv_at hl 0 rfl) w) ?_
  refine g_1 (fun w => lv_iload_n X.1 X.2.1 d_LW_pass_4 rfl (lv_at hl 1 rfl) w) ?_
  refine g_1 (fun w => lv_iload_n X.1 X.2.1 d_LW_pass_5 rfl (lv_at hl 2 rfl) w) ?_
  refine g_1 (fun w => lv_lload_n X.1 X.2.1 d_LW_pass_6 rfl (lv_at hl 3 rfl) w) ?_
  refine g_callVX (na := 3) X (c_LB_pass B0 hfl hx hAl hYl hbo hE hi hn hg hpn hap) rfl fX rfl ⟨⟨tw_281, tw_1⟩, ⟨by decide, by decide, by decide +kernel⟩, by decide, by decide⟩ tw_278 tw_279 tw_280 rfl hl.1 (Nat.le_of_ble_eq_true rfl) ⟨by decide, by decide⟩ d_LW_pass_7 (fun CC h' x0 hp => ?_) (fun v h' hp => ?_)
  · obtain ⟨hbb, rfl⟩ : ((CC = "java/lang/IllegalArgumentException" ∧ B_bad A i n g) ∨ (CC = "java/lang/IllegalStateException" ∧ (¬ B_bad A i n g ∧ ∃ b : Nat, (b : Int) = i ∧ b < A.length ∧ B_full (bs b) n pn))) ∧ h = h' := by
      exact hp
    rcases hbb with ⟨rfl, hb0⟩ | ⟨rfl, hb1⟩
    · refine ⟨15, gc_1 hxt (by decide) (by decide) tw_277, ?_⟩
      refine g_s (fun kk => lv_astore (lv' := [(6, .ref x0), (0, .ref x), (1, .int (iZ (i))), (2, .int (iZ (n))), (3, .long (lZ (g))), (5, .ref o)]) X.1 X.2.1 d_LW_pass_15 hl (by decide) rfl kk) (fun ls hl => ?_)
      refine g_1 (fun w => lv_iconst (v := iZ 1) X.1 X.2.1 d_LW_pass_17 rfl w) ?_
      exact g_iret X (Or.inr (Or.inl ⟨rfl, hb0, rfl⟩)) (Nat.le_of_ble_eq_true rfl) (Nat.le_of_ble_eq_true rfl) d_LW_pass_18
    · refine ⟨19, gc_2 hxt (by decide) (by decide) tw_277 (by decide) (by decide) (by decide) tw_115, ?_⟩
      refine g_s (fun kk => lv_astore (lv' := [(6, .ref x0), (0, .ref x), (1, .int (iZ (i))), (2, .int (iZ (n))), (3, .long (lZ (g))), (5, .ref o)]) X.1 X.2.1 d_LW_pass_19 hl (by decide) rfl kk) (fun ls hl => ?_)
      refine g_1 (fun w => lv_iconst (v := iZ 2) X.1 X.2.1 d_LW_pass_21 rfl w) ?_
      exact g_iret X (Or.inr (Or.inr (⟨rfl, hb1, rfl⟩))) (Nat.le_of_ble_eq_true rfl) (Nat.le_of_ble_eq_true rfl) d_LW_pass_22
  obtain ⟨b, hbi, hbl, hn0, hg3, hg4, hpl, hrm, rfl, hxR, hkk⟩ := hp
  have hRok : i_ok ((bP (bs b) : Int) + 1) := ⟨by omega, by omega⟩
  have fo2 : h' o = some ((40, 0), gL D 1 g0) := hkk _ _ fo (fun z => absurd z.2 (show ¬ (40 : Nat) ≤ 19 by decide))
  refine g_widen (k' := 0 + 1) (n' := 0 + 6) (Nat.le_of_ble_eq_true rfl) (Nat.le_of_ble_eq_true rfl) ?_
  show G D s0 p l e _ s m _ below meth c h' _ _ _ (F0 m 10 ls [.int (iZ (bP (bs b) + 1)), .int (iZ (0)), .ref o])
  refine g_i2l X (by first | exact hRok | exact ⟨by omega, by omega⟩) d_LW_pass_10 ?_
  refine g_lst X fo2 (Nat.succ_ne_zero _) (0) (rfl) (by omega) (by omega) d_LW_pass_11 ?_
  obtain ⟨h_1, eh_1⟩ : ∃ z_, z_ = g_up h' o ((40, 0), gL D 1 (va_up (g0) (0) (bP (bs b) + 1))) := ⟨_, rfl⟩
  refine g_h (h' := h_1) eh_1.symm ?_
  have f_2 : h_1 o = some ((40, 0), gL D 1 (va_up (g0) (0) (bP (bs b) + 1))) := by rw [eh_1]; exact g_us
  have hxo := LB_out hxR fo2 eh_1
  have hko : kp P_LO h h_1 := kp_up (kp_LO hkk) eh_1 fo2 (Or.inr rfl)
  refine g_goto (tgt := 23) X d_LW_pass_12 (by decide) ?_
  refine g_1 (fun w => lv_iconst (v := iZ 0) X.1 X.2.1 d_LW_pass_23 rfl w) ?_
  exact g_iret X (Or.inl ⟨rfl, bP (bs b) + 1, ⟨b, hbi, hbl, by omega, by omega, rfl, hxo⟩, f_2, hko⟩) (Nat.le_of_ble_eq_true rfl) (Nat.le_of_ble_eq_true rfl) d_LW_pass_24

set_option maxHeartbeats 4000000 in
set_option maxRecDepth 100000 in
theorem c_LW_step {D : va_G} {s0 : State} {l : Launch} {h : gH} (B0 : gB D s0) (hfl : l.flags = flags0) {x : Nat} {A Y : List Nat} {bs : Nat → Blk} {ys : Nat → Lay} {pn tb : Int} (hx : isLB D h x A bs Y ys pn tb) (hAl : A.length ≤ 1024) (hYl : Y.length ≤ 64) (hbo : ∀ i, i < A.length → okB (bs i)) {i j z : Int} (hi : i_ok i) (hj : i_ok j) (hz : i_ok z) {o : Nat} {g0 : Nat → Int} (fo : h o = some ((40, 0), gL D 1 g0)) : gMetW D s0 l y_LW_step b_LW_step 6 (some .int) [(0, 12, 15, 19), (0, 12, 19, 25)] ({ frames := 7, cells := 1, slots := 6, locals := 129 } : Room) [.ref x, .int (iZ (i)), .int (iZ (j)), .int (iZ (z)), .ref o] h (fun v h' => (some (.int (iZ 0)) = v ∧ ∃ R : Int, ((∃ b : Nat, (b : Int) = i ∧ b < A.length ∧ ((j = -1 ∧ R = bS (bs b)) ∨ (j ≠ -1 ∧ (z = 0 ∨ z = 1) ∧ ∃ k : Nat, (k : Int) = j ∧ k < bS (bs b) ∧ R = if z = 0 then (bC (bs b) (k + 1) : Int) else bB (bs b) (bC (bs b) (k + 1)) - bB (bs b) (bC (bs b) k)))) ∧ isLB D h' x A bs Y ys pn tb) ∧ h' o = some ((40, 0), gL D 1 (va_up g0 0 R)) ∧ kp P_LO h h') ∨ (some (.int (iZ 1)) = v ∧ (¬ (0 ≤ i ∧ i < A.length) ∨ (j ≠ -1 ∧ ¬ (z = 0 ∨ z = 1))) ∧ h = h') ∨ (some (.int (iZ 2)) = v ∧ (j ≠ -1 ∧ (z = 0 ∨ z = 1) ∧ ∃ b : Nat, (b : Int) = i ∧ b < A.length ∧ ¬ (0 ≤ j ∧ j < bS (bs b))) ∧ h = h')) := by
  obtain ⟨bl, yl, fX, hA, hY, hbs, hys, hnd, hnd2⟩ := id hx
  obtain ⟨eb, mb, fbl, -⟩ := id hA
  obtain ⟨ey, my, fyl, -⟩ := id hY
  refine g_enterW B0 (by decide) (Nat.le_of_ble_eq_true rfl) (fun p e s m below meth c ls X hxt hnm hl => ?_)
  have hl : lv_has ls 6 [(0, .ref x), (1, .int (iZ (i))), (2, .int (iZ (j))), (3, .int (iZ (z))), (4, .ref o)] := hl
  refine g_1 (fun w => lv_aload X.1 X.2.1 d_LW_step_0 (lv_at hl 4 rfl) w) ?_
  refine g_1 (fun w => lv_iconst (v := iZ 0) X.1 X.2.1 d_LW_step_2 rfl w) ?_
  refine g_1 (fun w => lv_aload_n X.1 X.2.1 d_LW_step_3 rfl (lv_at hl 0 rfl) w) ?_
  refine g_1 (fun w => lv_iload_n X.1 X.2.1 d_LW_step_4 rfl (lv_at hl 1 rfl) w) ?_
  refine g_1 (fun w => lv_iload_n X.1 X.2.1 d_LW_step_5 rfl (lv_at hl 2 rfl) w) ?_
  refine g_1 (fun w => lv_iload_n X.1 X.2.1 d_LW_step_6 rfl (lv_at hl 3 rfl) w) ?_
  refine g_callVX (na := 3) X (c_LB_step B0 hfl hx hAl hYl hbo hi hj hz) rfl fX rfl ⟨⟨tw_345, tw_1⟩, ⟨by decide, by decide, by decide +kernel⟩, by decide, by decide⟩ tw_342 tw_343 tw_344 rfl hl.1 (Nat.le_of_ble_eq_true rfl) ⟨by decide, by decide⟩ d_LW_step_7 (fun CC h' x0 hp => ?_) (fun v h' hp => ?_)
  · obtain ⟨hbb, rfl⟩ : ((CC = "java/lang/IllegalArgumentException" ∧ (¬ (0 ≤ i ∧ i < A.length) ∨ (j ≠ -1 ∧ ¬ (z = 0 ∨ z = 1)))) ∨ (CC = "java/lang/IndexOutOfBoundsException" ∧ (j ≠ -1 ∧ (z = 0 ∨ z = 1) ∧ ∃ b : Nat, (b : Int) = i ∧ b < A.length ∧ ¬ (0 ≤ j ∧ j < bS (bs b))))) ∧ h = h' := by
      exact hp
    rcases hbb with ⟨rfl, hb0⟩ | ⟨rfl, hb1⟩
    · refine ⟨15, gc_1 hxt (by decide) (by decide) tw_277, ?_⟩
      refine g_s (fun kk => lv_astore (lv' := [(5, .ref x0), (0, .ref x), (1, .int (iZ (i))), (2, .int (iZ (j))), (3, .int (iZ (z))), (4, .ref o)]) X.1 X.2.1 d_LW_step_15 hl (by decide) rfl kk) (fun ls hl => ?_)
      refine g_1 (fun w => lv_iconst (v := iZ 1) X.1 X.2.1 d_LW_step_17 rfl w) ?_
      exact g_iret X (Or.inr (Or.inl ⟨rfl, hb0, rfl⟩)) (Nat.le_of_ble_eq_true rfl) (Nat.le_of_ble_eq_true rfl) d_LW_step_18
    · refine ⟨19, gc_2 hxt (by decide) (by decide) tw_277 (by decide) (by decide) (by decide) tw_341, ?_⟩
      refine g_s (fun kk => lv_astore (lv' := [(5, .ref x0), (0, .ref x), (1, .int (iZ (i))), (2, .int (iZ (j))), (3, .int (iZ (z))), (4, .ref o)]) X.1 X.2.1 d_LW_step_19 hl (by decide) rfl kk) (fun ls hl => ?_)
      refine g_1 (fun w => lv_iconst (v := iZ 2) X.1 X.2.1 d_LW_step_21 rfl w) ?_
      exact g_iret X (Or.inr (Or.inr (⟨rfl, hb1, rfl⟩))) (Nat.le_of_ble_eq_true rfl) (Nat.le_of_ble_eq_true rfl) d_LW_step_22
  obtain ⟨b, hbi, hbl, hcs, rfl⟩ := hp
  obtain ⟨R, rfl, hRok, hR2⟩ : ∃ R : Int, some (.int (iZ R)) = v ∧ i_ok R ∧ ((j = -1 ∧ R = bS (bs b)) ∨ (j ≠ -1 ∧ (z = 0 ∨ z = 1) ∧ ∃ k : Nat, (k : Int) = j ∧ k < bS (bs b) ∧ R = if z = 0 then (bC (bs b) (k + 1) : Int) else bB (bs b) (bC (bs b) (k + 1)) - bB (bs b) (bC (bs b) k))) := by
    obtain ⟨k1, k2, k3, k4, k5, k6, k7, k8⟩ := hbo b hbl
    rcases hcs with ⟨e1, e2⟩ | ⟨e1, e2, k, e3, e4, e5⟩
    · exact ⟨_, e2, ⟨by omega, by omega⟩, Or.inl ⟨e1, rfl⟩⟩
    · refine ⟨_, e5, ?_, Or.inr ⟨e1, e2, k, e3, e4, rfl⟩⟩
      have q1 := k5 (k + 1)
      have q2 := k6 (bC (bs b) (k + 1))
      have q3 := k6 (bC (bs b) k)
      split
      · exact ⟨by omega, by omega⟩
      · exact ⟨by omega, by omega⟩
  have hxR := hx
  have fo2 : h o = some ((40, 0), gL D 1 g0) := fo
  refine g_widen (k' := 0 + 1) (n' := 0 + 6) (Nat.le_of_ble_eq_true rfl) (Nat.le_of_ble_eq_true rfl) ?_
  show G D s0 p l e _ s m _ below meth c h _ _ _ (F0 m 10 ls [.int (iZ (R)), .int (iZ (0)), .ref o])
  refine g_i2l X (by first | exact hRok | exact ⟨by omega, by omega⟩) d_LW_step_10 ?_
  refine g_lst X fo2 (Nat.succ_ne_zero _) (0) (rfl) (by omega) (by omega) d_LW_step_11 ?_
  obtain ⟨h_1, eh_1⟩ : ∃ z_, z_ = g_up h o ((40, 0), gL D 1 (va_up (g0) (0) (R))) := ⟨_, rfl⟩
  refine g_h (h' := h_1) eh_1.symm ?_
  have f_2 : h_1 o = some ((40, 0), gL D 1 (va_up (g0) (0) (R))) := by rw [eh_1]; exact g_us
  have hxo := LB_out hxR fo2 eh_1
  have hko : kp P_LO h h_1 := kp_up (kp_rf (P := P_LO) (h := h)) eh_1 fo2 (Or.inr rfl)
  refine g_goto (tgt := 23) X d_LW_step_12 (by decide) ?_
  refine g_1 (fun w => lv_iconst (v := iZ 0) X.1 X.2.1 d_LW_step_23 rfl w) ?_
  exact g_iret X (Or.inl ⟨rfl, R, ⟨⟨b, hbi, hbl, hR2⟩, hxo⟩, f_2, hko⟩) (Nat.le_of_ble_eq_true rfl) (Nat.le_of_ble_eq_true rfl) d_LW_step_24

set_option maxHeartbeats 4000000 in
set_option maxRecDepth 100000 in
theorem c_LW_gain {D : va_G} {s0 : State} {l : Launch} {h : gH} (B0 : gB D s0) (hfl : l.flags = flags0) {x : Nat} {A Y : List Nat} {bs : Nat → Blk} {ys : Nat → Lay} {pn tb : Int} (hx : isLB D h x A bs Y ys pn tb) (hAl : A.length ≤ 1024) (hYl : Y.length ≤ 64) (hbo : ∀ i, i < A.length → okB (bs i)) {i j : Int} (hi : i_ok i) (hj : i_ok j) {o : Nat} {g0 : Nat → Int} (fo : h o = some ((40, 0), gL D 1 g0)) : gMetW D s0 l y_LW_gain b_LW_gain 5 (some .int) [(0, 9, 12, 19), (0, 9, 16, 25)] ({ frames := 7, cells := 1, slots := 6, locals := 128 } : Room) [.ref x, .int (iZ (i)), .int (iZ (j)), .ref o] h (fun v h' => (some (.int (iZ 0)) = v ∧ ∃ R : Int, ((∃ b k : Nat, (b : Int) = i ∧ (k : Int) = j ∧ b < A.length ∧ k < bS (bs b) ∧ R = bG (bs b) (bC (bs b) (k + 1)) - bG (bs b) (bC (bs b) k)) ∧ isLB D h' x A bs Y ys pn tb) ∧ h' o = some ((40, 0), gL D 1 (va_up g0 0 R)) ∧ kp P_LO h h') ∨ (some (.int (iZ 1)) = v ∧ ¬ (0 ≤ i ∧ i < A.length) ∧ h = h') ∨ (some (.int (iZ 2)) = v ∧ (∃ b : Nat, (b : Int) = i ∧ b < A.length ∧ ¬ (0 ≤ j ∧ j < bS (bs b))) ∧ h = h')) := by
  obtain ⟨bl, yl, fX, hA, hY, hbs, hys, hnd, hnd2⟩ := id hx
  obtain ⟨eb, mb, fbl, -⟩ := id hA
  obtain ⟨ey, my, fyl, -⟩ := id hY
  refine g_enterW B0 (by decide) (Nat.le_of_ble_eq_true rfl) (fun p e s m below meth c ls X hxt hnm hl => ?_)
  have hl : lv_has ls 5 [(0, .ref x), (1, .int (iZ (i))), (2, .int (iZ (j))), (3, .ref o)] := hl
  refine g_1 (fun w => lv_aload_n X.1 X.2.1 d_LW_gain_0 rfl (lv_at hl 3 rfl) w) ?_
  refine g_1 (fun w => lv_iconst (v := iZ 0) X.1 X.2.1 d_LW_gain_1 rfl w) ?_
  refine g_1 (fun w => lv_aload_n X.1 X.2.1 d_LW_gain_2 rfl (lv_at hl 0 rfl) w) ?_
  refine g_1 (fun w => lv_iload_n X.1 X.2.1 d_LW_gain_3 rfl (lv_at hl 1 rfl) w) ?_
  refine g_1 (fun w => lv_iload_n X.1 X.2.1 d_LW_gain_4 rfl (lv_at hl 2 rfl) w) ?_
  refine g_callVX (na := 2) X (c_LB_gain B0 hfl hx hAl hYl hbo hi hj) rfl fX rfl ⟨⟨tw_378, tw_1⟩, ⟨by decide, by decide, by decide +kernel⟩, by decide, by decide⟩ tw_375 tw_376 tw_377 rfl hl.1 (Nat.le_of_ble_eq_true rfl) ⟨by decide, by decide⟩ d_LW_gain_5 (fun CC h' x0 hp => ?_) (fun v h' hp => ?_)
  · obtain ⟨hbb, rfl⟩ : ((CC = "java/lang/IllegalArgumentException" ∧ ¬ (0 ≤ i ∧ i < A.length)) ∨ (CC = "java/lang/IndexOutOfBoundsException" ∧ (∃ b : Nat, (b : Int) = i ∧ b < A.length ∧ ¬ (0 ≤ j ∧ j < bS (bs b))))) ∧ h = h' := by
      exact hp
    rcases hbb with ⟨rfl, hb0⟩ | ⟨rfl, hb1⟩
    · refine ⟨12, gc_1 hxt (by decide) (by decide) tw_277, ?_⟩
      refine g_s (fun kk => lv_astore (lv' := [(4, .ref x0), (0, .ref x), (1, .int (iZ (i))), (2, .int (iZ (j))), (3, .ref o)]) X.1 X.2.1 d_LW_gain_12 hl (by decide) rfl kk) (fun ls hl => ?_)
      refine g_1 (fun w => lv_iconst (v := iZ 1) X.1 X.2.1 d_LW_gain_14 rfl w) ?_
      exact g_iret X (Or.inr (Or.inl ⟨rfl, hb0, rfl⟩)) (Nat.le_of_ble_eq_true rfl) (Nat.le_of_ble_eq_true rfl) d_LW_gain_15
    · refine ⟨16, gc_2 hxt (by decide) (by decide) tw_277 (by decide) (by decide) (by decide) tw_341, ?_⟩
      refine g_s (fun kk => lv_astore (lv' := [(4, .ref x0), (0, .ref x), (1, .int (iZ (i))), (2, .int (iZ (j))), (3, .ref o)]) X.1 X.2.1 d_LW_gain_16 hl (by decide) rfl kk) (fun ls hl => ?_)
      refine g_1 (fun w => lv_iconst (v := iZ 2) X.1 X.2.1 d_LW_gain_18 rfl w) ?_
      exact g_iret X (Or.inr (Or.inr (⟨rfl, hb1, rfl⟩))) (Nat.le_of_ble_eq_true rfl) (Nat.le_of_ble_eq_true rfl) d_LW_gain_19
  obtain ⟨b, k, hbi, hkj, hbl, hkl, rfl, rfl⟩ := hp
  have hxR := hx
  have fo2 : h o = some ((40, 0), gL D 1 g0) := fo
  refine g_widen (k' := 0 + 1) (n' := 0 + 6) (Nat.le_of_ble_eq_true rfl) (Nat.le_of_ble_eq_true rfl) ?_
  show G D s0 p l e _ s m _ below meth c h _ _ _ (F0 m 8 ls [.long (lZ (bG (bs b) (bC (bs b) (k + 1)) - bG (bs b) (bC (bs b) k))), .int (iZ (0)), .ref o])
  refine g_lst X fo2 (Nat.succ_ne_zero _) (0) (rfl) (by omega) (by omega) d_LW_gain_8 ?_
  obtain ⟨h_1, eh_1⟩ : ∃ z_, z_ = g_up h o ((40, 0), gL D 1 (va_up (g0) (0) (bG (bs b) (bC (bs b) (k + 1)) - bG (bs b) (bC (bs b) k)))) := ⟨_, rfl⟩
  refine g_h (h' := h_1) eh_1.symm ?_
  have f_2 : h_1 o = some ((40, 0), gL D 1 (va_up (g0) (0) (bG (bs b) (bC (bs b) (k + 1)) - bG (bs b) (bC (bs b) k)))) := by rw [eh_1]; exact g_us
  have hxo := LB_out hxR fo2 eh_1
  have hko : kp P_LO h h_1 := kp_up (kp_rf (P := P_LO) (h := h)) eh_1 fo2 (Or.inr rfl)
  refine g_goto (tgt := 20) X d_LW_gain_9 (by decide) ?_
  refine g_1 (fun w => lv_iconst (v := iZ 0) X.1 X.2.1 d_LW_gain_20 rfl w) ?_
  exact g_iret X (Or.inl ⟨rfl, bG (bs b) (bC (bs b) (k + 1)) - bG (bs b) (bC (bs b) k), ⟨⟨b, k, hbi, hkj, hbl, hkl, rfl⟩, hxo⟩, f_2, hko⟩) (Nat.le_of_ble_eq_true rfl) (Nat.le_of_ble_eq_true rfl) d_LW_gain_21

set_option maxHeartbeats 4000000 in
set_option maxRecDepth 100000 in
theorem c_LW_cut {D : va_G} {s0 : State} {l : Launch} {h : gH} (B0 : gB D s0) (hfl : l.flags = flags0) {x : Nat} {A Y : List Nat} {bs : Nat → Blk} {ys : Nat → Lay} {pn tb : Int} (hx : isLB D h x A bs Y ys pn tb) (hAl : A.length ≤ 1024) (hYl : Y.length ≤ 64) (hbo : ∀ i, i < A.length → okB (bs i)) (hyo : ∀ j, j < Y.length → (ys j).1 = A.length) (hyc : ∀ j b, j < Y.length → b < A.length → i_ok ((ys j).2.1 b)) {i z : Int} (hi : i_ok i) (hz : i_ok z) {o : Nat} {g0 : Nat → Int} (fo : h o = some ((40, 0), gL D 1 g0)) : gMetW D s0 l y_LW_cut b_LW_cut 5 (some .int) [(0, 10, 13, 19), (0, 10, 17, 25)] ({ frames := 7, cells := 1, slots := 6, locals := 127 } : Room) [.ref x, .int (iZ (i)), .int (iZ (z)), .ref o] h (fun v h' => (some (.int (iZ 0)) = v ∧ ∃ R : Int, ((∃ j b : Nat, (j : Int) = i ∧ (b : Int) = z ∧ j < Y.length ∧ b < A.length ∧ R = (ys j).2.1 b) ∧ isLB D h' x A bs Y ys pn tb) ∧ h' o = some ((40, 0), gL D 1 (va_up g0 0 R)) ∧ kp P_LO h h') ∨ (some (.int (iZ 1)) = v ∧ ¬ (0 ≤ z ∧ z < A.length) ∧ h = h') ∨ (some (.int (iZ 2)) = v ∧ ((0 ≤ z ∧ z < A.length) ∧ ¬ (0 ≤ i ∧ i < Y.length)) ∧ h = h')) := by
  obtain ⟨bl, yl, fX, hA, hY, hbs, hys, hnd, hnd2⟩ := id hx
  obtain ⟨eb, mb, fbl, -⟩ := id hA
  obtain ⟨ey, my, fyl, -⟩ := id hY
  refine g_enterW B0 (by decide) (Nat.le_of_ble_eq_true rfl) (fun p e s m below meth c ls X hxt hnm hl => ?_)
  have hl : lv_has ls 5 [(0, .ref x), (1, .int (iZ (i))), (2, .int (iZ (z))), (3, .ref o)] := hl
  refine g_1 (fun w => lv_aload_n X.1 X.2.1 d_LW_cut_0 rfl (lv_at hl 3 rfl) w) ?_
  refine g_1 (fun w => lv_iconst (v := iZ 0) X.1 X.2.1 d_LW_cut_1 rfl w) ?_
  refine g_1 (fun w => lv_aload_n X.1 X.2.1 d_LW_cut_2 rfl (lv_at hl 0 rfl) w) ?_
  refine g_1 (fun w => lv_iload_n X.1 X.2.1 d_LW_cut_3 rfl (lv_at hl 1 rfl) w) ?_
  refine g_1 (fun w => lv_iload_n X.1 X.2.1 d_LW_cut_4 rfl (lv_at hl 2 rfl) w) ?_
  refine g_callVX (na := 2) X (c_LB_cut B0 hfl hx hAl hYl hbo hyo hi hz) rfl fX rfl ⟨⟨tw_475, tw_1⟩, ⟨by decide, by decide, by decide +kernel⟩, by decide, by decide⟩ tw_472 tw_473 tw_474 rfl hl.1 (Nat.le_of_ble_eq_true rfl) ⟨by decide, by decide⟩ d_LW_cut_5 (fun CC h' x0 hp => ?_) (fun v h' hp => ?_)
  · obtain ⟨hbb, rfl⟩ : ((CC = "java/lang/IllegalArgumentException" ∧ ¬ (0 ≤ z ∧ z < A.length)) ∨ (CC = "java/lang/IndexOutOfBoundsException" ∧ ((0 ≤ z ∧ z < A.length) ∧ ¬ (0 ≤ i ∧ i < Y.length)))) ∧ h = h' := by
      exact hp
    rcases hbb with ⟨rfl, hb0⟩ | ⟨rfl, hb1⟩
    · refine ⟨13, gc_1 hxt (by decide) (by decide) tw_277, ?_⟩
      refine g_s (fun kk => lv_astore (lv' := [(4, .ref x0), (0, .ref x), (1, .int (iZ (i))), (2, .int (iZ (z))), (3, .ref o)]) X.1 X.2.1 d_LW_cut_13 hl (by decide) rfl kk) (fun ls hl => ?_)
      refine g_1 (fun w => lv_iconst (v := iZ 1) X.1 X.2.1 d_LW_cut_15 rfl w) ?_
      exact g_iret X (Or.inr (Or.inl ⟨rfl, hb0, rfl⟩)) (Nat.le_of_ble_eq_true rfl) (Nat.le_of_ble_eq_true rfl) d_LW_cut_16
    · refine ⟨17, gc_2 hxt (by decide) (by decide) tw_277 (by decide) (by decide) (by decide) tw_341, ?_⟩
      refine g_s (fun kk => lv_astore (lv' := [(4, .ref x0), (0, .ref x), (1, .int (iZ (i))), (2, .int (iZ (z))), (3, .ref o)]) X.1 X.2.1 d_LW_cut_17 hl (by decide) rfl kk) (fun ls hl => ?_)
      refine g_1 (fun w => lv_iconst (v := iZ 2) X.1 X.2.1 d_LW_cut_19 rfl w) ?_
      exact g_iret X (Or.inr (Or.inr (⟨rfl, hb1, rfl⟩))) (Nat.le_of_ble_eq_true rfl) (Nat.le_of_ble_eq_true rfl) d_LW_cut_20
  obtain ⟨j, b, hji, hbz, hjl, hbl, rfl, rfl⟩ := hp
  have hRok := hyc j b hjl hbl
  have hxR := hx
  have fo2 : h o = some ((40, 0), gL D 1 g0) := fo
  refine g_widen (k' := 0 + 1) (n' := 0 + 6) (Nat.le_of_ble_eq_true rfl) (Nat.le_of_ble_eq_true rfl) ?_
  show G D s0 p l e _ s m _ below meth c h _ _ _ (F0 m 8 ls [.int (iZ ((ys j).2.1 b)), .int (iZ (0)), .ref o])
  refine g_i2l X (by first | exact hRok | exact ⟨by omega, by omega⟩) d_LW_cut_8 ?_
  refine g_lst X fo2 (Nat.succ_ne_zero _) (0) (rfl) (by omega) (by omega) d_LW_cut_9 ?_
  obtain ⟨h_1, eh_1⟩ : ∃ z_, z_ = g_up h o ((40, 0), gL D 1 (va_up (g0) (0) ((ys j).2.1 b))) := ⟨_, rfl⟩
  refine g_h (h' := h_1) eh_1.symm ?_
  have f_2 : h_1 o = some ((40, 0), gL D 1 (va_up (g0) (0) ((ys j).2.1 b))) := by rw [eh_1]; exact g_us
  have hxo := LB_out hxR fo2 eh_1
  have hko : kp P_LO h h_1 := kp_up (kp_rf (P := P_LO) (h := h)) eh_1 fo2 (Or.inr rfl)
  refine g_goto (tgt := 21) X d_LW_cut_10 (by decide) ?_
  refine g_1 (fun w => lv_iconst (v := iZ 0) X.1 X.2.1 d_LW_cut_21 rfl w) ?_
  exact g_iret X (Or.inl ⟨rfl, (ys j).2.1 b, ⟨⟨j, b, hji, hbz, hjl, hbl, rfl⟩, hxo⟩, f_2, hko⟩) (Nat.le_of_ble_eq_true rfl) (Nat.le_of_ble_eq_true rfl) d_LW_cut_22

set_option maxHeartbeats 4000000 in
set_option maxRecDepth 100000 in
theorem c_LW_total {D : va_G} {s0 : State} {l : Launch} {h : gH} (B0 : gB D s0) (hfl : l.flags = flags0) {x : Nat} {A Y : List Nat} {bs : Nat → Blk} {ys : Nat → Lay} {pn tb : Int} (hx : isLB D h x A bs Y ys pn tb) (hAl : A.length ≤ 1024) (hYl : Y.length ≤ 64) (hyt : ∀ j, j < Y.length → i_ok (ys j).2.2.1) {i : Int} (hi : i_ok i) {o : Nat} {g0 : Nat → Int} (fo : h o = some ((40, 0), gL D 1 g0)) : gMetW D s0 l y_LW_total b_LW_total 4 (some .int) [(0, 9, 12, 25)] ({ frames := 7, cells := 1, slots := 6, locals := 126 } : Room) [.ref x, .int (iZ (i)), .ref o] h (fun v h' => (some (.int (iZ 0)) = v ∧ ∃ R : Int, ((∃ j : Nat, (j : Int) = i ∧ j < Y.length ∧ R = (ys j).2.2.1) ∧ isLB D h' x A bs Y ys pn tb) ∧ h' o = some ((40, 0), gL D 1 (va_up g0 0 R)) ∧ kp P_LO h h') ∨ (some (.int (iZ 1)) = v ∧ ¬ (0 ≤ i ∧ i < Y.length) ∧ h = h')) := by
  obtain ⟨bl, yl, fX, hA, hY, hbs, hys, hnd, hnd2⟩ := id hx
  obtain ⟨eb, mb, fbl, -⟩ := id hA
  obtain ⟨ey, my, fyl, -⟩ := id hY
  refine g_enterW B0 (by decide) (Nat.le_of_ble_eq_true rfl) (fun p e s m below meth c ls X hxt hnm hl => ?_)
  have hl : lv_has ls 4 [(0, .ref x), (1, .int (iZ (i))), (2, .ref o)] := hl
  refine g_1 (fun w => lv_aload_n X.1 X.2.1 d_LW_total_0 rfl (lv_at hl 2 rfl) w) ?_
  refine g_1 (fun w => lv_iconst (v := iZ 0) X.1 X.2.1 d_LW_total_1 rfl w) ?_
  refine g_1 (fun w => lv_aload_n X.1 X.2.1 d_LW_total_2 rfl (lv_at hl 0 rfl) w) ?_
  refine g_1 (fun w => lv_iload_n X.1 X.2.1 d_LW_total_3 rfl (lv_at hl 1 rfl) w) ?_
  refine g_callVX (na := 1) X (c_LB_total B0 hfl hx hAl hYl hi) rfl fX rfl ⟨⟨tw_487, tw_1⟩, ⟨by decide, by decide, by decide +kernel⟩, by decide, by decide⟩ tw_484 tw_485 tw_486 rfl hl.1 (Nat.le_of_ble_eq_true rfl) ⟨by decide, by decide⟩ d_LW_total_4 (fun CC h' x0 hp => ?_) (fun v h' hp => ?_)
  · obtain ⟨hbb, rfl⟩ : ((CC = "java/lang/IndexOutOfBoundsException" ∧ ¬ (0 ≤ i ∧ i < Y.length))) ∧ h = h' := by
      exact ⟨⟨hp.1, hp.2.1⟩, hp.2.2⟩
    obtain ⟨rfl, hb0⟩ := hbb
    refine ⟨12, gc_1 hxt (by decide) (by decide) tw_341, ?_⟩
    refine g_s (fun kk => lv_astore_n (lv' := [(3, .ref x0), (0, .ref x), (1, .int (iZ (i))), (2, .ref o)]) X.1 X.2.1 d_LW_total_12 rfl hl (by decide) rfl kk) (fun ls hl => ?_)
    refine g_1 (fun w => lv_iconst (v := iZ 1) X.1 X.2.1 d_LW_total_13 rfl w) ?_
    exact g_iret X (Or.inr (⟨rfl, hb0, rfl⟩)) (Nat.le_of_ble_eq_true rfl) (Nat.le_of_ble_eq_true rfl) d_LW_total_14
  obtain ⟨j, hji, hjl, rfl, rfl⟩ := hp
  have hRok := hyt j hjl
  have hxR := hx
  have fo2 : h o = some ((40, 0), gL D 1 g0) := fo
  refine g_widen (k' := 0 + 1) (n' := 0 + 6) (Nat.le_of_ble_eq_true rfl) (Nat.le_of_ble_eq_true rfl) ?_
  show G D s0 p l e _ s m _ below meth c h _ _ _ (F0 m 7 ls [.int (iZ ((ys j).2.2.1)), .int (iZ (0)), .ref o])
  refine g_i2l X (by first | exact hRok | exact ⟨by omega, by omega⟩) d_LW_total_7 ?_
  refine g_lst X fo2 (Nat.succ_ne_zero _) (0) (rfl) (by omega) (by omega) d_LW_total_8 ?_
  obtain ⟨h_1, eh_1⟩ : ∃ z_, z_ = g_up h o ((40, 0), gL D 1 (va_up (g0) (0) ((ys j).2.2.1))) := ⟨_, rfl⟩
  refine g_h (h' := h_1) eh_1.symm ?_
  have f_2 : h_1 o = some ((40, 0), gL D 1 (va_up (g0) (0) ((ys j).2.2.1))) := by rw [eh_1]; exact g_us
  have hxo := LB_out hxR fo2 eh_1
  have hko : kp P_LO h h_1 := kp_up (kp_rf (P := P_LO) (h := h)) eh_1 fo2 (Or.inr rfl)
  refine g_goto (tgt := 15) X d_LW_total_9 (by decide) ?_
  refine g_1 (fun w => lv_iconst (v := iZ 0) X.1 X.2.1 d_LW_total_15 rfl w) ?_
  exact g_iret X (Or.inl ⟨rfl, (ys j).2.2.1, ⟨⟨j, hji, hjl, rfl⟩, hxo⟩, f_2, hko⟩) (Nat.le_of_ble_eq_true rfl) (Nat.le_of_ble_eq_true rfl) d_LW_total_16

set_option maxHeartbeats 4000000 in
set_option maxRecDepth 100000 in
theorem c_LW_threshold {D : va_G} {s0 : State} {l : Launch} {h : gH} (B0 : gB D s0) (hfl : l.flags = flags0) {x : Nat} {A Y : List Nat} {bs : Nat → Blk} {ys : Nat → Lay} {pn tb : Int} (hx : isLB D h x A bs Y ys pn tb) (hAl : A.length ≤ 1024) (hYl : Y.length ≤ 64) (hyo : ∀ j, j < Y.length → i_ok (ys j).2.2.2.2) {i z : Int} (hi : i_ok i) (hz : i_ok z) {o : Nat} {g0 : Nat → Int} (fo : h o = some ((40, 0), gL D 1 g0)) : gMetW D s0 l y_LW_threshold b_LW_threshold 5 (some .int) [(0, 9, 12, 19), (0, 9, 16, 25)] ({ frames := 7, cells := 1, slots := 6, locals := 128 } : Room) [.ref x, .int (iZ (i)), .int (iZ (z)), .ref o] h (fun v h' => (some (.int (iZ 0)) = v ∧ ∃ R : Int, ((∃ j : Nat, (z = 0 ∨ z = 1) ∧ (j : Int) = i ∧ j < Y.length ∧ R = if z = 0 then (ys j).2.2.2.1 else (ys j).2.2.2.2) ∧ isLB D h' x A bs Y ys pn tb) ∧ h' o = some ((40, 0), gL D 1 (va_up g0 0 R)) ∧ kp P_LO h h') ∨ (some (.int (iZ 1)) = v ∧ ¬ (z = 0 ∨ z = 1) ∧ h = h') ∨ (some (.int (iZ 2)) = v ∧ ((z = 0 ∨ z = 1) ∧ ¬ (0 ≤ i ∧ i < Y.length)) ∧ h = h')) := by
  obtain ⟨bl, yl, fX, hA, hY, hbs, hys, hnd, hnd2⟩ := id hx
  obtain ⟨eb, mb, fbl, -⟩ := id hA
  obtain ⟨ey, my, fyl, -⟩ := id hY
  refine g_enterW B0 (by decide) (Nat.le_of_ble_eq_true rfl) (fun p e s m below meth c ls X hxt hnm hl => ?_)
  have hl : lv_has ls 5 [(0, .ref x), (1, .int (iZ (i))), (2, .int (iZ (z))), (3, .ref o)] := hl
  refine g_1 (fun w => lv_aload_n X.1 X.2.1 d_LW_threshold_0 rfl (lv_at hl 3 rfl) w) ?_
  refine g_1 (fun w => lv_iconst (v := iZ 0) X.1 X.2.1 d_LW_threshold_1 rfl w) ?_
  refine g_1 (fun w => lv_aload_n X.1 X.2.1 d_LW_threshold_2 rfl (lv_at hl 0 rfl) w) ?_
  refine g_1 (fun w => lv_iload_n X.1 X.2.1 d_LW_threshold_3 rfl (lv_at hl 1 rfl) w) ?_
  refine g_1 (fun w => lv_iload_n X.1 X.2.1 d_LW_threshold_4 rfl (lv_at hl 2 rfl) w) ?_
  refine g_callVX (na := 2) X (c_LB_threshold B0 hfl hx hAl hYl hyo hi hz) rfl fX rfl ⟨⟨tw_494, tw_1⟩, ⟨by decide, by decide, by decide +kernel⟩, by decide, by decide⟩ tw_491 tw_492 tw_493 rfl hl.1 (Nat.le_of_ble_eq_true rfl) ⟨by decide, by decide⟩ d_LW_threshold_5 (fun CC h' x0 hp => ?_) (fun v h' hp => ?_)
  · obtain ⟨hbb, rfl⟩ : ((CC = "java/lang/IllegalArgumentException" ∧ ¬ (z = 0 ∨ z = 1)) ∨ (CC = "java/lang/IndexOutOfBoundsException" ∧ ((z = 0 ∨ z = 1) ∧ ¬ (0 ≤ i ∧ i < Y.length)))) ∧ h = h' := by
      exact hp
    rcases hbb with ⟨rfl, hb0⟩ | ⟨rfl, hb1⟩
    · refine ⟨12, gc_1 hxt (by decide) (by decide) tw_277, ?_⟩
      refine g_s (fun kk => lv_astore (lv' := [(4, .ref x0), (0, .ref x), (1, .int (iZ (i))), (2, .int (iZ (z))), (3, .ref o)]) X.1 X.2.1 d_LW_threshold_12 hl (by decide) rfl kk) (fun ls hl => ?_)
      refine g_1 (fun w => lv_iconst (v := iZ 1) X.1 X.2.1 d_LW_threshold_14 rfl w) ?_
      exact g_iret X (Or.inr (Or.inl ⟨rfl, hb0, rfl⟩)) (Nat.le_of_ble_eq_true rfl) (Nat.le_of_ble_eq_true rfl) d_LW_threshold_15
    · refine ⟨16, gc_2 hxt (by decide) (by decide) tw_277 (by decide) (by decide) (by decide) tw_341, ?_⟩
      refine g_s (fun kk => lv_astore (lv' := [(4, .ref x0), (0, .ref x), (1, .int (iZ (i))), (2, .int (iZ (z))), (3, .ref o)]) X.1 X.2.1 d_LW_threshold_16 hl (by decide) rfl kk) (fun ls hl => ?_)
      refine g_1 (fun w => lv_iconst (v := iZ 2) X.1 X.2.1 d_LW_threshold_18 rfl w) ?_
      exact g_iret X (Or.inr (Or.inr (⟨rfl, hb1, rfl⟩))) (Nat.le_of_ble_eq_true rfl) (Nat.le_of_ble_eq_true rfl) d_LW_threshold_19
  obtain ⟨j, hji, hjl, hzz, rfl, rfl⟩ := hp
  have hxR := hx
  have fo2 : h o = some ((40, 0), gL D 1 g0) := fo
  refine g_widen (k' := 0 + 1) (n' := 0 + 6) (Nat.le_of_ble_eq_true rfl) (Nat.le_of_ble_eq_true rfl) ?_
  show G D s0 p l e _ s m _ below meth c h _ _ _ (F0 m 8 ls [.long (lZ (if z = 0 then (ys j).2.2.2.1 else (ys j).2.2.2.2)), .int (iZ (0)), .ref o])
  refine g_lst X fo2 (Nat.succ_ne_zero _) (0) (rfl) (by omega) (by omega) d_LW_threshold_8 ?_
  obtain ⟨h_1, eh_1⟩ : ∃ z_, z_ = g_up h o ((40, 0), gL D 1 (va_up (g0) (0) (if z = 0 then (ys j).2.2.2.1 else (ys j).2.2.2.2))) := ⟨_, rfl⟩
  refine g_h (h' := h_1) eh_1.symm ?_
  have f_2 : h_1 o = some ((40, 0), gL D 1 (va_up (g0) (0) (if z = 0 then (ys j).2.2.2.1 else (ys j).2.2.2.2))) := by rw [eh_1]; exact g_us
  have hxo := LB_out hxR fo2 eh_1
  have hko : kp P_LO h h_1 := kp_up (kp_rf (P := P_LO) (h := h)) eh_1 fo2 (Or.inr rfl)
  refine g_goto (tgt := 20) X d_LW_threshold_9 (by decide) ?_
  refine g_1 (fun w => lv_iconst (v := iZ 0) X.1 X.2.1 d_LW_threshold_20 rfl w) ?_
  exact g_iret X (Or.inl ⟨rfl, if z = 0 then (ys j).2.2.2.1 else (ys j).2.2.2.2, ⟨⟨j, hzz, hji, hjl, rfl⟩, hxo⟩, f_2, hko⟩) (Nat.le_of_ble_eq_true rfl) (Nat.le_of_ble_eq_true rfl) d_LW_threshold_21

set_option maxHeartbeats 4000000 in
set_option maxRecDepth 100000 in
theorem c_LW_layer {D : va_G} {s0 : State} {l : Launch} {h : gH} (B0 : gB D s0) (hfl : l.flags = flags0) {x : Nat} {A Y : List Nat} {bs : Nat → Blk} {ys : Nat → Lay} {pn tb : Int} (hx : isLB D h x A bs Y ys pn tb) (hAl : A.length ≤ 1024) (hYl : Y.length ≤ 64) (hwf : ∀ i, i < A.length → wfB (bs i)) {N : Nat} (hpn : pn = N) (hNl : N ≤ 16384) (htb : tb = totB bs A.length) {bud : Int} (hbu : i_ok bud) {QQ : Tkg} (hQQ : QQ = layQ A.length N bud bs tb) (hQb : i_ok QQ.2.1) {o : Nat} {g0 : Nat → Int} (fo : h o = some ((40, 0), gL D 1 g0)) : gMetW D s0 l y_LW_layer b_LW_layer 4 (some .int) [(0, 9, 12, 19), (0, 9, 15, 13)] ({ frames := 8, cells := 3, slots := 2628, locals := 193 } : Room) [.ref x, .int (iZ (bud)), .ref o] h (fun v h' => (some (.int (iZ 0)) = v ∧ ∃ R : Int, (-1 ≤ bud ∧ Y.length < 64 ∧ R = QQ.2.1 ∧ ∃ (b : Nat) (cf : Nat → Int), (∀ j, j < A.length → cf j = bL (QQ.1 j)) ∧ isLB D h' x A QQ.1 (Y ++ [b]) (va_up ys Y.length (A.length, cf, QQ.2.1, QQ.2.2.1, QQ.2.2.2)) pn QQ.2.1) ∧ h' o = some ((40, 0), gL D 1 (va_up g0 0 R)) ∧ kp P_LO h h') ∨ (some (.int (iZ 1)) = v ∧ bud < -1 ∧ h = h') ∨ (some (.int (iZ 2)) = v ∧ (-1 ≤ bud ∧ ¬ Y.length < 64) ∧ h = h')) := by
  obtain ⟨bl, yl, fX, hA, hY, hbs, hys, hnd, hnd2⟩ := id hx
  obtain ⟨eb, mb, fbl, -⟩ := id hA
  obtain ⟨ey, my, fyl, -⟩ := id hY
  refine g_enterW B0 (by decide) (Nat.le_of_ble_eq_true rfl) (fun p e s m below meth c ls X hxt hnm hl => ?_)
  have hl : lv_has ls 4 [(0, .ref x), (1, .int (iZ (bud))), (2, .ref o)] := hl
  refine g_1 (fun w => lv_aload_n X.1 X.2.1 d_LW_layer_0 rfl (lv_at hl 2 rfl) w) ?_
  refine g_1 (fun w => lv_iconst (v := iZ 0) X.1 X.2.1 d_LW_layer_1 rfl w) ?_
  refine g_1 (fun w => lv_aload_n X.1 X.2.1 d_LW_layer_2 rfl (lv_at hl 0 rfl) w) ?_
  refine g_1 (fun w => lv_iload_n X.1 X.2.1 d_LW_layer_3 rfl (lv_at hl 1 rfl) w) ?_
  refine g_callVX (na := 1) X (c_LB_layer B0 hfl hx hAl hYl hwf hpn hNl htb hbu hQQ) rfl fX rfl ⟨⟨tw_386, tw_1⟩, ⟨by decide, by decide, by decide +kernel⟩, by decide, by decide⟩ tw_383 tw_384 tw_385 rfl hl.1 (Nat.le_of_ble_eq_true rfl) ⟨by decide, by decide⟩ d_LW_layer_4 (fun CC h' x0 hp => ?_) (fun v h' hp => ?_)
  · obtain ⟨hbb, rfl⟩ : ((CC = "java/lang/IllegalArgumentException" ∧ bud < -1) ∨ (CC = "java/lang/IllegalStateException" ∧ (-1 ≤ bud ∧ ¬ Y.length < 64))) ∧ h = h' := by
      exact hp
    rcases hbb with ⟨rfl, hb0⟩ | ⟨rfl, hb1⟩
    · refine ⟨12, gc_1 hxt (by decide) (by decide) tw_277, ?_⟩
      refine g_s (fun kk => lv_astore_n (lv' := [(3, .ref x0), (0, .ref x), (1, .int (iZ (bud))), (2, .ref o)]) X.1 X.2.1 d_LW_layer_12 rfl hl (by decide) rfl kk) (fun ls hl => ?_)
      refine g_1 (fun w => lv_iconst (v := iZ 1) X.1 X.2.1 d_LW_layer_13 rfl w) ?_
      exact g_iret X (Or.inr (Or.inl ⟨rfl, hb0, rfl⟩)) (Nat.le_of_ble_eq_true rfl) (Nat.le_of_ble_eq_true rfl) d_LW_layer_14
    · refine ⟨15, gc_2 hxt (by decide) (by decide) tw_277 (by decide) (by decide) (by decide) tw_115, ?_⟩
      refine g_s (fun kk => lv_astore_n (lv' := [(3, .ref x0), (0, .ref x), (1, .int (iZ (bud))), (2, .ref o)]) X.1 X.2.1 d_LW_layer_15 rfl hl (by decide) rfl kk) (fun ls hl => ?_)
      refine g_1 (fun w => lv_iconst (v := iZ 2) X.1 X.2.1 d_LW_layer_16 rfl w) ?_
      exact g_iret X (Or.inr (Or.inr (⟨rfl, hb1, rfl⟩))) (Nat.le_of_ble_eq_true rfl) (Nat.le_of_ble_eq_true rfl) d_LW_layer_17
  obtain ⟨hb1, hyl, rfl, b, cf, hcf, hxR, hkk⟩ := hp
  have hRok := hQb
  have fo2 : h' o = some ((40, 0), gL D 1 g0) := hkk _ _ fo (fun z => absurd z.2 (show ¬ (40 : Nat) ≤ 19 by decide))
  refine g_widen (k' := 0 + 3) (n' := 0 + 2628) (Nat.le_of_ble_eq_true rfl) (Nat.le_of_ble_eq_true rfl) ?_
  show G D s0 p l e _ s m _ below meth c h' _ _ _ (F0 m 7 ls [.int (iZ (QQ.2.1)), .int (iZ (0)), .ref o])
  refine g_i2l X (by first | exact hRok | exact ⟨by omega, by omega⟩) d_LW_layer_7 ?_
  refine g_lst X fo2 (Nat.succ_ne_zero _) (0) (rfl) (by omega) (by omega) d_LW_layer_8 ?_
  obtain ⟨h_1, eh_1⟩ : ∃ z_, z_ = g_up h' o ((40, 0), gL D 1 (va_up (g0) (0) (QQ.2.1))) := ⟨_, rfl⟩
  refine g_h (h' := h_1) eh_1.symm ?_
  have f_2 : h_1 o = some ((40, 0), gL D 1 (va_up (g0) (0) (QQ.2.1))) := by rw [eh_1]; exact g_us
  have hxo := LB_out hxR fo2 eh_1
  have hko : kp P_LO h h_1 := kp_up (kp_LO hkk) eh_1 fo2 (Or.inr rfl)
  refine g_goto (tgt := 18) X d_LW_layer_9 (by decide) ?_
  refine g_1 (fun w => lv_iconst (v := iZ 0) X.1 X.2.1 d_LW_layer_18 rfl w) ?_
  exact g_iret X (Or.inl ⟨rfl, QQ.2.1, ⟨hb1, hyl, rfl, b, cf, hcf, hxo⟩, f_2, hko⟩) (Nat.le_of_ble_eq_true rfl) (Nat.le_of_ble_eq_true rfl) d_LW_layer_19
