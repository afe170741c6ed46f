set_option maxHeartbeats 4000000 in
set_option maxRecDepth 100000 in
theorem c_MD_goOn {D : va_G} {s0 : State} {l : Launch} {h : gH} (B0 : gB D s0) {a n : Nat} {M : Mdl} {bs : Nat → Blk} (hm : isMD D h a M) (hv : mV M n bs) (hw : ∀ b, b < n → wfC (bs b)) (hc : cV M n bs) (b : Nat) (hb : b < n) (tb : hN (bs b)) : gMet D s0 l y_MD_goOn b_MD_goOn 2 none ({ frames := 2, cells := 0, slots := 0, locals := 53 } : Room) [.ref a, .int (iZ (b))] h (fun v h' => none = v ∧ ∃ k x : Nat → Int, isMD D h' a (mKX M k x) ∧ cV (mKX M k x) n (va_up bs b (tkn (bs b))) ∧ kp P_MD h h') := by
  obtain ⟨p3, p4, p6, p7, p9, p10, p11, p12, p13, p14, f0, f3, f4, f6, f7, f9, f10, f11, f12, f13, f14⟩ := id hm
  obtain ⟨v1, v2, v3, v4, v5⟩ := id hv
  obtain ⟨g1b, g2b⟩ := hc b hb
  have hwb := hw b hb
  have nbb := nB_bd hwb.1
  have npb := hwb.up (s := bT (bs b)) tb
  have n0b := nbb.1 tb
  have z1b := hwb.1.2.2.1 _ tb
  have e1b : aK M b = ((bC (bs b) (bT (bs b)) : Nat) : Int) := by rw [g1b, hwb.1.2.2.2 tb]
  have e2b : aX M b = ((bC (bs b) (bT (bs b) + 1) : Nat) : Int) := by rw [g2b, if_pos tb]
  have ngb : 0 < nG (bs b) := by show 0 < bG (bs b) (bC (bs b) (bT (bs b) + 1)) - bG (bs b) (bC (bs b) (bT (bs b))); omega
  refine g_enter B0 (plainFor_of_name (by decide)) (Nat.le_of_ble_eq_true rfl) (fun p e s m below meth c ls X hnm hl => ?_)
  have hl : lv_has ls 2 [(0, .ref a), (1, .int (iZ (b)))] := hl
  refine g_1 (fun w => lv_aload_n X.1 X.2.1 d_MD_goOn_0 rfl (lv_at hl 0 rfl) w) ?_
  refine g_get X (ci := 4) rfl f0 13 (by decide) ⟨rfl, rfl⟩ tw_515 (Or.inl rfl) rfl d_MD_goOn_1 ?_
  refine g_1 (fun w => lv_iload_n X.1 X.2.1 d_MD_goOn_4 rfl (lv_at hl 1 rfl) w) ?_
  refine g_1 (fun w => lv_aload_n X.1 X.2.1 d_MD_goOn_5 rfl (lv_at hl 0 rfl) w) ?_
  refine g_get X (ci := 4) rfl f0 14 (by decide) ⟨rfl, rfl⟩ tw_516 (Or.inl rfl) rfl d_MD_goOn_6 ?_
  refine g_1 (fun w => lv_iload_n X.1 X.2.1 d_MD_goOn_9 rfl (lv_at hl 1 rfl) w) ?_
  refine g_ild X f14 (b) (rfl) (by omega) (by omega) d_MD_goOn_10 ?_
  refine g_ti (congrArg iZ (show (aX M b : Int) = bC (bs b) (bT (bs b) + 1) from e2b)) ?_
  refine g_ist X f13 (Nat.succ_ne_zero _) (b) (rfl) (by omega) (by omega) d_MD_goOn_11 ?_
  obtain ⟨h_1, eh_1⟩ : ∃ z, z = g_up h p13 ((29, a), gI D 1024 (va_up (aK M) (b) (bC (bs b) (bT (bs b) + 1)))) := ⟨_, rfl⟩
  refine g_h (h' := h_1) eh_1.symm ?_
  have f_2 : h_1 a = some ((20, 0), .inr (4, [.int (iZ (mT M)), .int (iZ (mN M)), .int (iZ (mA M)), .ref p3, .ref p4, .int (iZ (mU M)), .ref p6, .ref p7, .int (iZ (mY M)), .ref p9, .ref p10, .ref p11, .ref p12, .ref p13, .ref p14])) := by rw [eh_1]; exact g_uk f0 f13 (show (20 : Nat) ≠ 29 by decide)
  have f_3 : h_1 p3 = some ((21, a), gI D 1024 (aP M)) := by rw [eh_1]; exact g_uk f3 f13 (show (21 : Nat) ≠ 29 by decide)
  have f_4 : h_1 p4 = some ((22, a), gI D 1024 (aB M)) := by rw [eh_1]; exact g_uk f4 f13 (show (22 : Nat) ≠ 29 by decide)
  have f_5 : h_1 p6 = some ((23, a), gI D 17408 (aY M)) := by rw [eh_1]; exact g_uk f6 f13 (show (23 : Nat) ≠ 29 by decide)
  have f_6 : h_1 p7 = some ((24, a), gL D 17408 (aG M)) := by rw [eh_1]; exact g_uk f7 f13 (show (24 : Nat) ≠ 29 by decide)
  have f_7 : h_1 p9 = some ((25, a), gI D 65536 (aC M)) := by rw [eh_1]; exact g_uk f9 f13 (show (25 : Nat) ≠ 29 by decide)
  have f_8 : h_1 p10 = some ((26, a), gI D 64 (aT M)) := by rw [eh_1]; exact g_uk f10 f13 (show (26 : Nat) ≠ 29 by decide)
  have f_9 : h_1 p11 = some ((27, a), gL D 64 (aL M)) := by rw [eh_1]; exact g_uk f11 f13 (show (27 : Nat) ≠ 29 by decide)
  have f_10 : h_1 p12 = some ((28, a), gI D 64 (aM M)) := by rw [eh_1]; exact g_uk f12 f13 (show (28 : Nat) ≠ 29 by decide)
  have f_11 : h_1 p13 = some ((29, a), gI D 1024 (va_up (aK M) (b) (bC (bs b) (bT (bs b) + 1)))) := by rw [eh_1]; exact g_us
  have f_12 : h_1 p14 = some ((30, a), gI D 1024 (aX M)) := by rw [eh_1]; exact g_uk f14 f13 (show (30 : Nat) ≠ 29 by decide)
  have hk_13 := kp_up (kp_rf (P := P_MD) (h := h)) eh_1 f13 (⟨Nat.le_of_ble_eq_true rfl, Nat.le_of_ble_eq_true rfl⟩)
  have hm1 : isMD D h_1 a (mKX M (va_up (aK M) b (bC (bs b) (bT (bs b) + 1))) (aX M)) := ⟨p3, p4, p6, p7, p9, p10, p11, p12, p13, p14, f_2, f_3, f_4, f_5, f_6, f_7, f_8, f_9, f_10, f_11, f_12⟩
  refine g_1 (fun w => lv_aload_n X.1 X.2.1 d_MD_goOn_12 rfl (lv_at hl 0 rfl) w) ?_
  refine g_get X (ci := 4) rfl f_2 14 (by decide) ⟨rfl, rfl⟩ tw_516 (Or.inl rfl) rfl d_MD_goOn_13 ?_
  refine g_1 (fun w => lv_iload_n X.1 X.2.1 d_MD_goOn_16 rfl (lv_at hl 1 rfl) w) ?_
  refine g_1 (fun w => lv_aload_n X.1 X.2.1 d_MD_goOn_17 rfl (lv_at hl 0 rfl) w) ?_
  refine g_1 (fun w => lv_iload_n X.1 X.2.1 d_MD_goOn_18 rfl (lv_at hl 1 rfl) w) ?_
  refine g_1 (fun w => lv_aload_n X.1 X.2.1 d_MD_goOn_19 rfl (lv_at hl 0 rfl) w) ?_
  refine g_get X (ci := 4) rfl f_2 13 (by decide) ⟨rfl, rfl⟩ tw_515 (Or.inl rfl) rfl d_MD_goOn_20 ?_
  refine g_1 (fun w => lv_iload_n X.1 X.2.1 d_MD_goOn_23 rfl (lv_at hl 1 rfl) w) ?_
  refine g_ild X f_11 (b) (rfl) (by omega) (by omega) d_MD_goOn_24 ?_
  refine g_ti (congrArg iZ (show ((va_up (aK M) (b) (bC (bs b) (bT (bs b) + 1))) b : Int) = bC (bs b) (bT (bs b) + 1) from va_up_self _ _ _)) ?_
  refine g_callV (na := 2) X (c_MD_stepFrom B0 hm1 hv hw b (bC (bs b) (bT (bs b) + 1)) hb z1b.2) rfl f_2 rfl ⟨⟨tw_585, tw_5⟩, ⟨by decide, by decide, by decide +kernel⟩, by decide, by decide⟩ tw_582 tw_584 ts_MD_stepFrom rfl hl.1 (Nat.le_of_ble_eq_true rfl) ⟨by decide, by decide⟩ d_MD_goOn_25 (fun v h' hp => ?_)
  obtain ⟨rfl, rfl⟩ := hp
  refine g_widen (k' := 0) (n' := 0) (by decide) (by decide) ?_
  show G D s0 p l e _ s m _ below meth c h_1 _ _ _ (F0 m 28 ls [.int (iZ (eN (sfr (bs b) (bC (bs b) (bT (bs b) + 1)) (bP (bs b))))), .int (iZ (b)), .ref p14])
  refine g_ist X f_12 (Nat.succ_ne_zero _) (b) (rfl) (by omega) (by omega) d_MD_goOn_28 ?_
  obtain ⟨h_14, eh_14⟩ : ∃ z, z = g_up h_1 p14 ((30, a), gI D 1024 (va_up (aX M) (b) (eN (sfr (bs b) (bC (bs b) (bT (bs b) + 1)) (bP (bs b)))))) := ⟨_, rfl⟩
  refine g_h (h' := h_14) eh_14.symm ?_
  have f_15 : h_14 a = some ((20, 0), .inr (4, [.int (iZ (mT M)), .int (iZ (mN M)), .int (iZ (mA M)), .ref p3, .ref p4, .int (iZ (mU M)), .ref p6, .ref p7, .int (iZ (mY M)), .ref p9, .ref p10, .ref p11, .ref p12, .ref p13, .ref p14])) := by rw [eh_14]; exact g_uk f_2 f_12 (show (20 : Nat) ≠ 30 by decide)
  have f_16 : h_14 p3 = some ((21, a), gI D 1024 (aP M)) := by rw [eh_14]; exact g_uk f_3 f_12 (show (21 : Nat) ≠ 30 by decide)
  have f_17 : h_14 p4 = some ((22, a), gI D 1024 (aB M)) := by rw [eh_14]; exact g_uk f_4 f_12 (show (22 : Nat) ≠ 30 by decide)
  have f_18 : h_14 p6 = some ((23, a), gI D 17408 (aY M)) := by rw [eh_14]; exact g_uk f_5 f_12 (show (23 : Nat) ≠ 30 by decide)
  have f_19 : h_14 p7 = some ((24, a), gL D 17408 (aG M)) := by rw [eh_14]; exact g_uk f_6 f_12 (show (24 : Nat) ≠ 30 by decide)
  have f_20 : h_14 p9 = some ((25, a), gI D 65536 (aC M)) := by rw [eh_14]; exact g_uk f_7 f_12 (show (25 : Nat) ≠ 30 by decide)
  have f_21 : h_14 p10 = some ((26, a), gI D 64 (aT M)) := by rw [eh_14]; exact g_uk f_8 f_12 (show (26 : Nat) ≠ 30 by decide)
  have f_22 : h_14 p11 = some ((27, a), gL D 64 (aL M)) := by rw [eh_14]; exact g_uk f_9 f_12 (show (27 : Nat) ≠ 30 by decide)
  have f_23 : h_14 p12 = some ((28, a), gI D 64 (aM M)) := by rw [eh_14]; exact g_uk f_10 f_12 (show (28 : Nat) ≠ 30 by decide)
  have f_24 : h_14 p13 = some ((29, a), gI D 1024 (va_up (aK M) (b) (bC (bs b) (bT (bs b) + 1)))) := by rw [eh_14]; exact g_uk f_11 f_12 (show (29 : Nat) ≠ 30 by decide)
  have f_25 : h_14 p14 = some ((30, a), gI D 1024 (va_up (aX M) (b) (eN (sfr (bs b) (bC (bs b) (bT (bs b) + 1)) (bP (bs b)))))) := by rw [eh_14]; exact g_us
  have hk_26 := kp_up (hk_13) eh_14 f_12 (⟨Nat.le_of_ble_eq_true rfl, Nat.le_of_ble_eq_true rfl⟩)
  exact g_vret X (⟨rfl, va_up (aK M) b (bC (bs b) (bT (bs b) + 1)), va_up (aX M) b (eN (sfr (bs b) (bC (bs b) (bT (bs b) + 1)) (bP (bs b)))), ⟨p3, p4, p6, p7, p9, p10, p11, p12, p13, p14, f_15, f_16, f_17, f_18, f_19, f_20, f_21, f_22, f_23, f_24, f_25⟩, cV_goOn hc hb hwb tb, hk_26⟩) (by decide) (by decide) d_MD_goOn_29

set_option maxHeartbeats 4000000 in
set_option maxRecDepth 100000 in
theorem c_MD_take {D : va_G} {s0 : State} {l : Launch} {h : gH} (B0 : gB D s0) {a n : Nat} {M : Mdl} {bs : Nat → Blk} (hm : isMD D h a M) (hv : mV M n bs) (hw : ∀ b, b < n → wfC (bs b)) (hc : cV M n bs) (y : Nat) (hy : y < n) (ty : hN (bs y)) {yn : Nat} (l1 : mY M = yn) (l2 : yn < 64) : gMet D s0 l y_MD_take b_MD_take 3 none ({ frames := 3, cells := 0, slots := 0, locals := 74 } : Room) [.ref a, .int (iZ (y))] h (fun v h' => none = v ∧ ∃ k x : Nat → Int, isMD D h' a (mKX (mLM M (va_up (aL M) yn (nG (bs y))) (va_up (aM M) yn (nB (bs y)))) k x) ∧ cV (mKX (mLM M (va_up (aL M) yn (nG (bs y))) (va_up (aM M) yn (nB (bs y)))) k x) n (fun j => tkS (nG (bs y)) (nB (bs y)) (bs j)) ∧ kp P_MD h h') := by
  obtain ⟨p3, p4, p6, p7, p9, p10, p11, p12, p13, p14, f0, f3, f4, f6, f7, f9, f10, f11, f12, f13, f14⟩ := id hm
  obtain ⟨v1, v2, v3, v4, v5⟩ := id hv
  obtain ⟨g1y, g2y⟩ := hc y hy
  have hwy := hw y hy
  have nby := nB_bd hwy.1
  have npy := hwy.up (s := bT (bs y)) ty
  have n0y := nby.1 ty
  have z1y := hwy.1.2.2.1 _ ty
  have e1y : aK M y = ((bC (bs y) (bT (bs y)) : Nat) : Int) := by rw [g1y, hwy.1.2.2.2 ty]
  have e2y : aX M y = ((bC (bs y) (bT (bs y) + 1) : Nat) : Int) := by rw [g2y, if_pos ty]
  have ngy : 0 < nG (bs y) := by show 0 < bG (bs y) (bC (bs y) (bT (bs y) + 1)) - bG (bs y) (bC (bs y) (bT (bs y))); omega
  refine g_enter B0 (plainFor_of_name (by decide)) (Nat.le_of_ble_eq_true rfl) (fun p e s m below meth c ls X hnm hl => ?_)
  have hl : lv_has ls 3 [(0, .ref a), (1, .int (iZ (y)))] := hl
  have loop : ∀ (d i : Nat) (hh : gH) (kk_ xx_ : Nat → Int) (ls : Array Slot), i + d = n → isMD D hh a (mKX (mLM M (va_up (aL M) yn (nG (bs y))) (va_up (aM M) yn (nB (bs y)))) kk_ xx_) → cV (mKX (mLM M (va_up (aL M) yn (nG (bs y))) (va_up (aM M) yn (nB (bs y)))) kk_ xx_) n (uT (nG (bs y)) (nB (bs y)) y bs i) → kp P_MD h hh → lv_has ls 3 [(2, .int (iZ (i))), (1, .int (iZ (y))), (0, .ref a)] → G D s0 p l e ({ frames := 3, cells := 0, slots := 0, locals := 74 } : Room) s m ([.ref a, .int (iZ (y))] : List Value).toArray below meth c hh 0 0 (MQ below (gQ D s0 (fun v h' => none = v ∧ ∃ k x : Nat → Int, isMD D h' a (mKX (mLM M (va_up (aL M) yn (nG (bs y))) (va_up (aM M) yn (nB (bs y)))) k x) ∧ cV (mKX (mLM M (va_up (aL M) yn (nG (bs y))) (va_up (aM M) yn (nB (bs y)))) k x) n (fun j => tkS (nG (bs y)) (nB (bs y)) (bs j)) ∧ kp P_MD h h')) ([.ref a, .int (iZ (y))] : List Value).toArray s 0 0 (fun q => s0.heap.size ≤ q)) (F0 m 54 ls []) := by
    intro d
    induction d with
    | zero =>
      intro i hh kk_ xx_ ls hi hm2 hc2 hkk hl
      obtain ⟨p3, p4, p6, p7, p9, p10, p11, p12, p13, p14, f0, f3, f4, f6, f7, f9, f10, f11, f12, f13, f14⟩ := id hm2
      have f0 : hh a = some ((20, 0), .inr (4, [.int (iZ (mT M)), .int (iZ (mN M)), .int (iZ (mA M)), .ref p3, .ref p4, .int (iZ (mU M)), .ref p6, .ref p7, .int (iZ (mY M)), .ref p9, .ref p10, .ref p11, .ref p12, .ref p13, .ref p14])) := f0
      have f3 : hh p3 = some ((21, a), gI D 1024 (aP M)) := f3
      have f4 : hh p4 = some ((22, a), gI D 1024 (aB M)) := f4
      have f6 : hh p6 = some ((23, a), gI D 17408 (aY M)) := f6
      have f7 : hh p7 = some ((24, a), gL D 17408 (aG M)) := f7
      have f9 : hh p9 = some ((25, a), gI D 65536 (aC M)) := f9
      have f10 : hh p10 = some ((26, a), gI D 64 (aT M)) := f10
      have f11 : hh p11 = some ((27, a), gL D 64 (va_up (aL M) yn (nG (bs y)))) := f11
      have f12 : hh p12 = some ((28, a), gI D 64 (va_up (aM M) yn (nB (bs y)))) := f12
      have f13 : hh p13 = some ((29, a), gI D 1024 (kk_)) := f13
      have f14 : hh p14 = some ((30, a), gI D 1024 (xx_)) := f14
      have hv2 : mV (mKX (mLM M (va_up (aL M) yn (nG (bs y))) (va_up (aM M) yn (nB (bs y)))) kk_ xx_) n (uT (nG (bs y)) (nB (bs y)) y bs i) := mV_congr hv (fun j hj => uT_BGP)
      have hw2 : ∀ j, j < n → wfC (uT (nG (bs y)) (nB (bs y)) y bs i j) := fun j hj => uT_wf (hw j hj)
      refine g_1 (fun w => lv_iload_n X.1 X.2.1 d_MD_take_54 rfl (lv_at hl 0 rfl) w) ?_
      refine g_1 (fun w => lv_aload_n X.1 X.2.1 d_MD_take_55 rfl (lv_at hl 2 rfl) w) ?_
      refine g_get X (ci := 4) rfl f0 1 (by decide) ⟨rfl, rfl⟩ tw_503 (Or.inl rfl) rfl d_MD_take_56 ?_
      refine g_icmp_ge (tgt := 99) X (by first | exact ⟨by omega, by omega⟩ | (split <;> exact ⟨by omega, by omega⟩) | exact cmpZ_ok _ _ | exact mul_ok (by omega) (by omega) (by omega) (by omega)) (by first | exact ⟨by omega, by omega⟩ | (split <;> exact ⟨by omega, by omega⟩) | exact cmpZ_ok _ _ | exact mul_ok (by omega) (by omega) (by omega) (by omega)) d_MD_take_59 (by decide) (fun c59 => ?_) (fun c59 => ?_)
      · have tty : hN (uT (nG (bs y)) (nB (bs y)) y bs i y) := by rw [uT_y]; exact ty
        refine g_1 (fun w => lv_aload_n X.1 X.2.1 d_MD_take_99 rfl (lv_at hl 2 rfl) w) ?_
        refine g_1 (fun w => lv_iload_n X.1 X.2.1 d_MD_take_100 rfl (lv_at hl 1 rfl) w) ?_
        refine g_callV (na := 1) X (c_MD_goOn B0 hm2 hv2 hw2 hc2 y (by omega) tty) rfl f0 rfl ⟨⟨tw_633, tw_5⟩, ⟨by decide, by decide, by decide +kernel⟩, by decide, by decide⟩ tw_630 tw_632 ts_MD_goOn rfl hl.1 (Nat.le_of_ble_eq_true rfl) ⟨by decide, by decide⟩ d_MD_take_101 (fun v h_1 hp => ?_)
        obtain ⟨rfl, k2, x2, hm3, hc3, hkg⟩ := hp
        have hk3 := kp_tr hkk hkg
        refine g_widen (k' := 0) (n' := 0) (by decide) (by decide) ?_
        show G D s0 p l e _ s m _ below meth c h_1 _ _ _ (F0 m 104 ls [])
        exact g_vret X (⟨rfl, k2, x2, hm3, cV_congr hc3 (fun j hj => by rw [show i = n by omega]; exact uT_fin ty hj), hk3⟩) (by decide) (by decide) d_MD_take_104
      · exfalso
        omega
    | succ d ih =>
      intro i hh kk_ xx_ ls hi hm2 hc2 hkk hl
      obtain ⟨p3, p4, p6, p7, p9, p10, p11, p12, p13, p14, f0, f3, f4, f6, f7, f9, f10, f11, f12, f13, f14⟩ := id hm2
      have f0 : hh a = some ((20, 0), .inr (4, [.int (iZ (mT M)), .int (iZ (mN M)), .int (iZ (mA M)), .ref p3, .ref p4, .int (iZ (mU M)), .ref p6, .ref p7, .int (iZ (mY M)), .ref p9, .ref p10, .ref p11, .ref p12, .ref p13, .ref p14])) := f0
      have f3 : hh p3 = some ((21, a), gI D 1024 (aP M)) := f3
      have f4 : hh p4 = some ((22, a), gI D 1024 (aB M)) := f4
      have f6 : hh p6 = some ((23, a), gI D 17408 (aY M)) := f6
      have f7 : hh p7 = some ((24, a), gL D 17408 (aG M)) := f7
      have f9 : hh p9 = some ((25, a), gI D 65536 (aC M)) := f9
      have f10 : hh p10 = some ((26, a), gI D 64 (aT M)) := f10
      have f11 : hh p11 = some ((27, a), gL D 64 (va_up (aL M) yn (nG (bs y)))) := f11
      have f12 : hh p12 = some ((28, a), gI D 64 (va_up (aM M) yn (nB (bs y)))) := f12
      have f13 : hh p13 = some ((29, a), gI D 1024 (kk_)) := f13
      have f14 : hh p14 = some ((30, a), gI D 1024 (xx_)) := f14
      have hv2 : mV (mKX (mLM M (va_up (aL M) yn (nG (bs y))) (va_up (aM M) yn (nB (bs y)))) kk_ xx_) n (uT (nG (bs y)) (nB (bs y)) y bs i) := mV_congr hv (fun j hj => uT_BGP)
      have hw2 : ∀ j, j < n → wfC (uT (nG (bs y)) (nB (bs y)) y bs i j) := fun j hj => uT_wf (hw j hj)
      refine g_1 (fun w => lv_iload_n X.1 X.2.1 d_MD_take_54 rfl (lv_at hl 0 rfl) w) ?_
      refine g_1 (fun w => lv_aload_n X.1 X.2.1 d_MD_take_55 rfl (lv_at hl 2 rfl) w) ?_
      refine g_get X (ci := 4) rfl f0 1 (by decide) ⟨rfl, rfl⟩ tw_503 (Or.inl rfl) rfl d_MD_take_56 ?_
      refine g_icmp_ge (tgt := 99) X (by first | exact (cV_ok hc2 (by omega) (hw2 i (by omega))).1 | exact ⟨by omega, by omega⟩ | (split <;> exact ⟨by omega, by omega⟩) | exact cmpZ_ok _ _ | exact mul_ok (by omega) (by omega) (by omega) (by omega)) (by first | exact (cV_ok hc2 (by omega) (hw2 i (by omega))).1 | exact ⟨by omega, by omega⟩ | (split <;> exact ⟨by omega, by omega⟩) | exact cmpZ_ok _ _ | exact mul_ok (by omega) (by omega) (by omega) (by omega)) d_MD_take_59 (by decide) (fun c59 => ?_) (fun c59 => ?_)
      · exfalso
        omega
      · refine g_1 (fun w => lv_iload_n X.1 X.2.1 d_MD_take_62 rfl (lv_at hl 0 rfl) w) ?_
        refine g_1 (fun w => lv_iload_n X.1 X.2.1 d_MD_take_63 rfl (lv_at hl 1 rfl) w) ?_
        refine g_icmp_eq (tgt := 93) X (by first | exact (cV_ok hc2 (by omega) (hw2 i (by omega))).1 | exact ⟨by omega, by omega⟩ | (split <;> exact ⟨by omega, by omega⟩) | exact cmpZ_ok _ _ | exact mul_ok (by omega) (by omega) (by omega) (by omega)) (by first | exact (cV_ok hc2 (by omega) (hw2 i (by omega))).1 | exact ⟨by omega, by omega⟩ | (split <;> exact ⟨by omega, by omega⟩) | exact cmpZ_ok _ _ | exact mul_ok (by omega) (by omega) (by omega) (by omega)) d_MD_take_64 (by decide) (fun c64 => ?_) (fun c64 => ?_)
        · refine g_s (fun kk => lv_iinc (v := iZ (i + 1)) (lv' := [(2, .int (iZ (i + 1))), (1, .int (iZ (y))), (0, .ref a)]) X.1 X.2.1 d_MD_take_93 hl (k := 0) rfl (iZ_add _ _) (by decide) rfl kk) (fun ls hl => ?_)
          refine g_goto (tgt := 54) X d_MD_take_96 (by decide) ?_
          exact ih (i + 1) hh kk_ xx_ ls (by omega) hm2 (by rw [uT_stay (Or.inl (by omega))]; exact hc2) hkk (lv_sub hl [0, 1, 2] rfl)
        · refine g_1 (fun w => lv_aload_n X.1 X.2.1 d_MD_take_67 rfl (lv_at hl 2 rfl) w) ?_
          refine g_get X (ci := 4) rfl f0 14 (by decide) ⟨rfl, rfl⟩ tw_516 (Or.inl rfl) rfl d_MD_take_68 ?_
          refine g_1 (fun w => lv_iload_n X.1 X.2.1 d_MD_take_71 rfl (lv_at hl 0 rfl) w) ?_
          refine g_ild X f14 (i) (rfl) (by omega) (by omega) d_MD_take_72 ?_
          refine g_if_lt (tgt := 93) X (by first | exact (cV_ok hc2 (by omega) (hw2 i (by omega))).1 | exact ⟨by omega, by omega⟩ | (split <;> exact ⟨by omega, by omega⟩) | exact cmpZ_ok _ _ | exact mul_ok (by omega) (by omega) (by omega) (by omega)) d_MD_take_73 (by decide) (fun c73 => ?_) (fun c73 => ?_)
          · refine g_s (fun kk => lv_iinc (v := iZ (i + 1)) (lv' := [(2, .int (iZ (i + 1))), (1, .int (iZ (y))), (0, .ref a)]) X.1 X.2.1 d_MD_take_93 hl (k := 0) rfl (iZ_add _ _) (by decide) rfl kk) (fun ls hl => ?_)
            refine g_goto (tgt := 54) X d_MD_take_96 (by decide) ?_
            exact ih (i + 1) hh kk_ xx_ ls (by omega) hm2 (by rw [uT_stay (Or.inr (tkS_f (fun w => by have q := cV_hasn hc2 (by omega) c73; rw [uT_at] at q; exact q w.1)))]; exact hc2) hkk (lv_sub hl [0, 1, 2] rfl)
          · have tti := cV_has hc2 (show i < n by omega) c73
            refine g_1 (fun w => lv_aload_n X.1 X.2.1 d_MD_take_76 rfl (lv_at hl 2 rfl) w) ?_
            refine g_1 (fun w => lv_iload_n X.1 X.2.1 d_MD_take_77 rfl (lv_at hl 0 rfl) w) ?_
            refine g_1 (fun w => lv_iload_n X.1 X.2.1 d_MD_take_78 rfl (lv_at hl 1 rfl) w) ?_
            refine g_callV (na := 2) X (c_MD_against B0 hm2 hv2 hw2 hc2 i y (by omega) (by omega) tti (by rw [uT_y]; exact ty)) rfl f0 rfl ⟨⟨tw_617, tw_5⟩, ⟨by decide, by decide, by decide +kernel⟩, by decide, by decide⟩ tw_614 tw_616 ts_MD_against rfl hl.1 (Nat.le_of_ble_eq_true rfl) ⟨by decide, by decide⟩ d_MD_take_79 (fun v h' hp => ?_)
            obtain ⟨rfl, rfl⟩ := hp
            refine g_widen (k' := 0) (n' := 0) (by decide) (by decide) ?_
            show G D s0 p l e _ s m _ below meth c hh _ _ _ (F0 m 82 ls [.int (iZ (cmpZ (nG (uT (nG (bs y)) (nB (bs y)) y bs i i) * nB (uT (nG (bs y)) (nB (bs y)) y bs i y)) (nG (uT (nG (bs y)) (nB (bs y)) y bs i y) * nB (uT (nG (bs y)) (nB (bs y)) y bs i i))))])
            refine g_ti (congrArg iZ (show (cmpZ (nG (uT (nG (bs y)) (nB (bs y)) y bs i i) * nB (uT (nG (bs y)) (nB (bs y)) y bs i y)) (nG (uT (nG (bs y)) (nB (bs y)) y bs i y) * nB (uT (nG (bs y)) (nB (bs y)) y bs i i)) : Int) = cmpZ (nG (bs i) * nB (bs y)) (nG (bs y) * nB (bs i)) from by rw [uT_at, uT_y])) ?_
            refine g_if_eq (tgt := 88) X (cmpZ_ok _ _) d_MD_take_82 (by decide) (fun c82 => ?_) (fun c82 => ?_)
            · refine g_1 (fun w => lv_aload_n X.1 X.2.1 d_MD_take_88 rfl (lv_at hl 2 rfl) w) ?_
              refine g_1 (fun w => lv_iload_n X.1 X.2.1 d_MD_take_89 rfl (lv_at hl 0 rfl) w) ?_
              refine g_callV (na := 1) X (c_MD_goOn B0 hm2 hv2 hw2 hc2 i (by omega) tti) rfl f0 rfl ⟨⟨tw_633, tw_5⟩, ⟨by decide, by decide, by decide +kernel⟩, by decide, by decide⟩ tw_630 tw_632 ts_MD_goOn rfl hl.1 (Nat.le_of_ble_eq_true rfl) ⟨by decide, by decide⟩ d_MD_take_90 (fun v h_1 hp => ?_)
              obtain ⟨rfl, k2, x2, hm3, hc3, hkg⟩ := hp
              have hk3 := kp_tr hkk hkg
              refine g_widen (k' := 0) (n' := 0) (by decide) (by decide) ?_
              show G D s0 p l e _ s m _ below meth c h_1 _ _ _ (F0 m 93 ls [])
              refine g_s (fun kk => lv_iinc (v := iZ (i + 1)) (lv' := [(2, .int (iZ (i + 1))), (1, .int (iZ (y))), (0, .ref a)]) X.1 X.2.1 d_MD_take_93 hl (k := 0) rfl (iZ_add _ _) (by decide) rfl kk) (fun ls hl => ?_)
              refine g_goto (tgt := 54) X d_MD_take_96 (by decide) ?_
              exact ih (i + 1) h_1 k2 x2 ls (by omega) hm3 (by rw [← uT_go (by omega) (show eqS (nG (bs y)) (nB (bs y)) (bs i) from ⟨by rw [uT_at] at tti; exact tti, c82⟩)]; exact hc3) hk3 (lv_sub hl [0, 1, 2] rfl)
            · refine g_goto (tgt := 93) X d_MD_take_85 (by decide) ?_
              refine g_s (fun kk => lv_iinc (v := iZ (i + 1)) (lv' := [(2, .int (iZ (i + 1))), (1, .int (iZ (y))), (0, .ref a)]) X.1 X.2.1 d_MD_take_93 hl (k := 0) rfl (iZ_add _ _) (by decide) rfl kk) (fun ls hl => ?_)
              refine g_goto (tgt := 54) X d_MD_take_96 (by decide) ?_
              exact ih (i + 1) hh kk_ xx_ ls (by omega) hm2 (by rw [uT_stay (Or.inr (tkS_f (fun w => c82 w.2)))]; exact hc2) hkk (lv_sub hl [0, 1, 2] rfl)
  refine g_1 (fun w => lv_aload_n X.1 X.2.1 d_MD_take_0 rfl (lv_at hl 0 rfl) w) ?_
  refine g_get X (ci := 4) rfl f0 11 (by decide) ⟨rfl, rfl⟩ tw_513 (Or.inl rfl) rfl d_MD_take_1 ?_
  refine g_1 (fun w => lv_aload_n X.1 X.2.1 d_MD_take_4 rfl (lv_at hl 0 rfl) w) ?_
  refine g_get X (ci := 4) rfl f0 8 (by decide) ⟨rfl, rfl⟩ tw_510 (Or.inl rfl) rfl d_MD_take_5 ?_
  refine g_1 (fun w => lv_aload_n X.1 X.2.1 d_MD_take_8 rfl (lv_at hl 0 rfl) w) ?_
  refine g_1 (fun w => lv_iload_n X.1 X.2.1 d_MD_take_9 rfl (lv_at hl 1 rfl) w) ?_
  refine g_1 (fun w => lv_aload_n X.1 X.2.1 d_MD_take_10 rfl (lv_at hl 0 rfl) w) ?_
  refine g_get X (ci := 4) rfl f0 13 (by decide) ⟨rfl, rfl⟩ tw_515 (Or.inl rfl) rfl d_MD_take_11 ?_
  refine g_1 (fun w => lv_iload_n X.1 X.2.1 d_MD_take_14 rfl (lv_at hl 1 rfl) w) ?_
  refine g_ild X f13 (y) (rfl) (by omega) (by omega) d_MD_take_15 ?_
  refine g_ti (congrArg iZ (show (aK M y : Int) = bC (bs y) (bT (bs y)) from e1y)) ?_
  refine g_1 (fun w => lv_aload_n X.1 X.2.1 d_MD_take_16 rfl (lv_at hl 0 rfl) w) ?_
  refine g_get X (ci := 4) rfl f0 14 (by decide) ⟨rfl, rfl⟩ tw_516 (Or.inl rfl) rfl d_MD_take_17 ?_
  refine g_1 (fun w => lv_iload_n X.1 X.2.1 d_MD_take_20 rfl (lv_at hl 1 rfl) w) ?_
  refine g_ild X f14 (y) (rfl) (by omega) (by omega) d_MD_take_21 ?_
  refine g_ti (congrArg iZ (show (aX M y : Int) = bC (bs y) (bT (bs y) + 1) from e2y)) ?_
  refine g_callV (na := 3) X (c_MD_gainOf B0 hm hv hw y (bC (bs y) (bT (bs y))) (bC (bs y) (bT (bs y) + 1)) (by omega) (by omega) (by omega)) rfl f0 rfl ⟨⟨tw_589, tw_5⟩, ⟨by decide, by decide, by decide +kernel⟩, by decide, by decide⟩ tw_586 tw_588 ts_MD_gainOf rfl hl.1 (Nat.le_of_ble_eq_true rfl) ⟨by decide, by decide⟩ d_MD_take_22 (fun v h' hp => ?_)
  obtain ⟨rfl, rfl⟩ := hp
  refine g_widen (k' := 0) (n' := 0) (by decide) (by decide) ?_
  show G D s0 p l e _ s m _ below meth c h _ _ _ (F0 m 25 ls [.long (lZ (nG (bs y))), .int (iZ (mY M)), .ref p11])
  refine g_lst X f11 (Nat.succ_ne_zero _) (yn) (l1) (by omega) (by omega) d_MD_take_25 ?_
  obtain ⟨h_1, eh_1⟩ : ∃ z, z = g_up h p11 ((27, a), gL D 64 (va_up (aL M) (yn) (nG (bs y)))) := ⟨_, rfl⟩
  refine g_h (h' := h_1) eh_1.symm ?_
  have f_2 : h_1 a = some ((20, 0), .inr (4, [.int (iZ (mT M)), .int (iZ (mN M)), .int (iZ (mA M)), .ref p3, .ref p4, .int (iZ (mU M)), .ref p6, .ref p7, .int (iZ (mY M)), .ref p9, .ref p10, .ref p11, .ref p12, .ref p13, .ref p14])) := by rw [eh_1]; exact g_uk f0 f11 (show (20 : Nat) ≠ 27 by decide)
  have f_3 : h_1 p3 = some ((21, a), gI D 1024 (aP M)) := by rw [eh_1]; exact g_uk f3 f11 (show (21 : Nat) ≠ 27 by decide)
  have f_4 : h_1 p4 = some ((22, a), gI D 1024 (aB M)) := by rw [eh_1]; exact g_uk f4 f11 (show (22 : Nat) ≠ 27 by decide)
  have f_5 : h_1 p6 = some ((23, a), gI D 17408 (aY M)) := by rw [eh_1]; exact g_uk f6 f11 (show (23 : Nat) ≠ 27 by decide)
  have f_6 : h_1 p7 = some ((24, a), gL D 17408 (aG M)) := by rw [eh_1]; exact g_uk f7 f11 (show (24 : Nat) ≠ 27 by decide)
  have f_7 : h_1 p9 = some ((25, a), gI D 65536 (aC M)) := by rw [eh_1]; exact g_uk f9 f11 (show (25 : Nat) ≠ 27 by decide)
  have f_8 : h_1 p10 = some ((26, a), gI D 64 (aT M)) := by rw [eh_1]; exact g_uk f10 f11 (show (26 : Nat) ≠ 27 by decide)
  have f_9 : h_1 p11 = some ((27, a), gL D 64 (va_up (aL M) (yn) (nG (bs y)))) := by rw [eh_1]; exact g_us
  have f_10 : h_1 p12 = some ((28, a), gI D 64 (aM M)) := by rw [eh_1]; exact g_uk f12 f11 (show (28 : Nat) ≠ 27 by decide)
  have f_11 : h_1 p13 = some ((29, a), gI D 1024 (aK M)) := by rw [eh_1]; exact g_uk f13 f11 (show (29 : Nat) ≠ 27 by decide)
  have f_12 : h_1 p14 = some ((30, a), gI D 1024 (aX M)) := by rw [eh_1]; exact g_uk f14 f11 (show (30 : Nat) ≠ 27 by decide)
  have hk_13 := kp_up (kp_rf (P := P_MD) (h := h)) eh_1 f11 (⟨Nat.le_of_ble_eq_true rfl, Nat.le_of_ble_eq_true rfl⟩)
  have hm1 : isMD D h_1 a (mLM M (va_up (aL M) yn (nG (bs y))) (aM M)) := ⟨p3, p4, p6, p7, p9, p10, p11, p12, p13, p14, f_2, f_3, f_4, f_5, f_6, f_7, f_8, f_9, f_10, f_11, f_12⟩
  refine g_1 (fun w => lv_aload_n X.1 X.2.1 d_MD_take_26 rfl (lv_at hl 0 rfl) w) ?_
  refine g_get X (ci := 4) rfl f_2 12 (by decide) ⟨rfl, rfl⟩ tw_514 (Or.inl rfl) rfl d_MD_take_27 ?_
  refine g_1 (fun w => lv_aload_n X.1 X.2.1 d_MD_take_30 rfl (lv_at hl 0 rfl) w) ?_
  refine g_get X (ci := 4) rfl f_2 8 (by decide) ⟨rfl, rfl⟩ tw_510 (Or.inl rfl) rfl d_MD_take_31 ?_
  refine g_1 (fun w => lv_aload_n X.1 X.2.1 d_MD_take_34 rfl (lv_at hl 0 rfl) w) ?_
  refine g_1 (fun w => lv_iload_n X.1 X.2.1 d_MD_take_35 rfl (lv_at hl 1 rfl) w) ?_
  refine g_1 (fun w => lv_aload_n X.1 X.2.1 d_MD_take_36 rfl (lv_at hl 0 rfl) w) ?_
  refine g_get X (ci := 4) rfl f_2 13 (by decide) ⟨rfl, rfl⟩ tw_515 (Or.inl rfl) rfl d_MD_take_37 ?_
  refine g_1 (fun w => lv_iload_n X.1 X.2.1 d_MD_take_40 rfl (lv_at hl 1 rfl) w) ?_
  refine g_ild X f_11 (y) (rfl) (by omega) (by omega) d_MD_take_41 ?_
  refine g_ti (congrArg iZ (show (aK M y : Int) = bC (bs y) (bT (bs y)) from e1y)) ?_
  refine g_1 (fun w => lv_aload_n X.1 X.2.1 d_MD_take_42 rfl (lv_at hl 0 rfl) w) ?_
  refine g_get X (ci := 4) rfl f_2 14 (by decide) ⟨rfl, rfl⟩ tw_516 (Or.inl rfl) rfl d_MD_take_43 ?_
  refine g_1 (fun w => lv_iload_n X.1 X.2.1 d_MD_take_46 rfl (lv_at hl 1 rfl) w) ?_
  refine g_ild X f_12 (y) (rfl) (by omega) (by omega) d_MD_take_47 ?_
  refine g_ti (congrArg iZ (show (aX M y : Int) = bC (bs y) (bT (bs y) + 1) from e2y)) ?_
  refine g_callV (na := 3) X (c_MD_bytesOf B0 hm1 hv hw y (bC (bs y) (bT (bs y))) (bC (bs y) (bT (bs y) + 1)) (by omega) (by omega) (by omega)) rfl f_2 rfl ⟨⟨tw_593, tw_5⟩, ⟨by decide, by decide, by decide +kernel⟩, by decide, by decide⟩ tw_590 tw_592 ts_MD_bytesOf rfl hl.1 (Nat.le_of_ble_eq_true rfl) ⟨by decide, by decide⟩ d_MD_take_48 (fun v h' hp => ?_)
  obtain ⟨rfl, rfl⟩ := hp
  refine g_widen (k' := 0) (n' := 0) (by decide) (by decide) ?_
  show G D s0 p l e _ s m _ below meth c h_1 _ _ _ (F0 m 51 ls [.int (iZ (nB (bs y))), .int (iZ (mY M)), .ref p12])
  refine g_ist X f_10 (Nat.succ_ne_zero _) (yn) (l1) (by omega) (by omega) d_MD_take_51 ?_
  obtain ⟨h_14, eh_14⟩ : ∃ z, z = g_up h_1 p12 ((28, a), gI D 64 (va_up (aM M) (yn) (nB (bs y)))) := ⟨_, rfl⟩
  refine g_h (h' := h_14) eh_14.symm ?_
  have f_15 : h_14 a = some ((20, 0), .inr (4, [.int (iZ (mT M)), .int (iZ (mN M)), .int (iZ (mA M)), .ref p3, .ref p4, .int (iZ (mU M)), .ref p6, .ref p7, .int (iZ (mY M)), .ref p9, .ref p10, .ref p11, .ref p12, .ref p13, .ref p14])) := by rw [eh_14]; exact g_uk f_2 f_10 (show (20 : Nat) ≠ 28 by decide)
  have f_16 : h_14 p3 = some ((21, a), gI D 1024 (aP M)) := by rw [eh_14]; exact g_uk f_3 f_10 (show (21 : Nat) ≠ 28 by decide)
  have f_17 : h_14 p4 = some ((22, a), gI D 1024 (aB M)) := by rw [eh_14]; exact g_uk f_4 f_10 (show (22 : Nat) ≠ 28 by decide)
  have f_18 : h_14 p6 = some ((23, a), gI D 17408 (aY M)) := by rw [eh_14]; exact g_uk f_5 f_10 (show (23 : Nat) ≠ 28 by decide)
  have f_19 : h_14 p7 = some ((24, a), gL D 17408 (aG M)) := by rw [eh_14]; exact g_uk f_6 f_10 (show (24 : Nat) ≠ 28 by decide)
  have f_20 : h_14 p9 = some ((25, a), gI D 65536 (aC M)) := by rw [eh_14]; exact g_uk f_7 f_10 (show (25 : Nat) ≠ 28 by decide)
  have f_21 : h_14 p10 = some ((26, a), gI D 64 (aT M)) := by rw [eh_14]; exact g_uk f_8 f_10 (show (26 : Nat) ≠ 28 by decide)
  have f_22 : h_14 p11 = some ((27, a), gL D 64 (va_up (aL M) (yn) (nG (bs y)))) := by rw [eh_14]; exact g_uk f_9 f_10 (show (27 : Nat) ≠ 28 by decide)
  have f_23 : h_14 p12 = some ((28, a), gI D 64 (va_up (aM M) (yn) (nB (bs y)))) := by rw [eh_14]; exact g_us
  have f_24 : h_14 p13 = some ((29, a), gI D 1024 (aK M)) := by rw [eh_14]; exact g_uk f_11 f_10 (show (29 : Nat) ≠ 28 by decide)
  have f_25 : h_14 p14 = some ((30, a), gI D 1024 (aX M)) := by rw [eh_14]; exact g_uk f_12 f_10 (show (30 : Nat) ≠ 28 by decide)
  have hk_26 := kp_up (hk_13) eh_14 f_10 (⟨Nat.le_of_ble_eq_true rfl, Nat.le_of_ble_eq_true rfl⟩)
  refine g_1 (fun w => lv_iconst (v := iZ 0) X.1 X.2.1 d_MD_take_52 rfl w) ?_
  refine g_s (fun kk => lv_istore_n (lv' := [(2, .int (iZ (0))), (0, .ref a), (1, .int (iZ (y)))]) X.1 X.2.1 d_MD_take_53 rfl hl (by decide) rfl kk) (fun ls hl => ?_)
  exact loop n 0 h_14 (aK M) (aX M) ls (by omega) ⟨p3, p4, p6, p7, p9, p10, p11, p12, p13, p14, f_15, f_16, f_17, f_18, f_19, f_20, f_21, f_22, f_23, f_24, f_25⟩ (by rw [uT_0]; exact hc) hk_26 (lv_sub hl [0, 2, 1] rfl)
