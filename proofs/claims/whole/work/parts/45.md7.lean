set_option maxHeartbeats 4000000 in
set_option maxRecDepth 100000 in
theorem c_MD_block {D : va_G} {s0 : State} {l : Launch} {h : gH} (B0 : gB D s0) {a n : Nat} {M : Mdl} {bs : Nat → Blk} (hm : isMD D h a M) (hv : mV M n bs) (hw : ∀ b, b < n → wfC (bs b)) : gMet D s0 l y_MD_block b_MD_block 1 (some .int) ({ frames := 1, cells := 0, slots := 0, locals := 22 } : Room) [.ref a] h (fun v h' => ∃ t r : Int, some (.int (iZ r)) = v ∧ kp P_MD h h' ∧ ((¬ n < 1024 ∧ t = 1 ∧ isMD D h' a (1, M.2)) ∨ (n < 1024 ∧ t = 0 ∧ r = n ∧ isMD D h' a (0, mN M + 1, mA M, mU M + 1, 0, va_up (aP M) n 0, va_up (aB M) n (mU M), va_up (aY M) (beg bs n) 0, va_up (aG M) (beg bs n) 0, aC M, aT M, aL M, aM M, aK M, aX M)))) := by
  obtain ⟨p3, p4, p6, p7, p9, p10, p11, p12, p13, p14, f0, f3, f4, f6, f7, f9, f10, f11, f12, f13, f14⟩ := id hm
  obtain ⟨v1, v2, v3, v4, v5⟩ := id hv
  refine g_enter B0 (plainFor_of_name (by decide)) (Nat.le_of_ble_eq_true rfl) (fun p e s m below meth c ls X hnm hl => ?_)
  have hl : lv_has ls 1 [(0, .ref a)] := hl
  refine g_1 (fun w => lv_aload_n X.1 X.2.1 d_MD_block_0 rfl (lv_at hl 0 rfl) w) ?_
  refine g_1 (fun w => lv_aload_n X.1 X.2.1 d_MD_block_1 rfl (lv_at hl 0 rfl) w) ?_
  refine g_get X (ci := 4) rfl f0 1 (by decide) ⟨rfl, rfl⟩ tw_503 (Or.inl rfl) rfl d_MD_block_2 ?_
  refine g_1 (fun w => lv_sipush (v := iZ 1024) X.1 X.2.1 d_MD_block_5 (by decide) w) ?_
  refine g_icmp_ne (tgt := 15) X (by first | exact ⟨by omega, by omega⟩ | (split <;> exact ⟨by omega, by omega⟩) | exact cmpZ_ok _ _ | exact mul_ok (by omega) (by omega) (by omega) (by omega)) (by first | exact ⟨by omega, by omega⟩ | (split <;> exact ⟨by omega, by omega⟩) | exact cmpZ_ok _ _ | exact mul_ok (by omega) (by omega) (by omega) (by omega)) d_MD_block_8 (by decide) (fun c8 => ?_) (fun c8 => ?_)
  · refine g_1 (fun w => lv_iconst (v := iZ 0) X.1 X.2.1 d_MD_block_15 rfl w) ?_
    refine g_1 (fun w => lv_iconst (v := iZ 0) X.1 X.2.1 d_MD_block_16 rfl w) ?_
    refine g_callV (na := 2) X (c_MD_throwing B0 hm ⟨by omega, by omega⟩ ⟨by omega, by omega⟩ (t := 0) (by decide) (r := 0) (by decide)) rfl f0 rfl ⟨⟨tw_563, tw_5⟩, ⟨by decide, by decide, by decide +kernel⟩, by decide, by decide⟩ tw_560 tw_562 ts_MD_throwing rfl hl.1 (Nat.le_of_ble_eq_true rfl) ⟨by decide, by decide⟩ d_MD_block_17 (fun v h_1 hp => ?_)
    obtain ⟨rfl, hm, hkT⟩ := hp
    obtain ⟨p3, p4, p6, p7, p9, p10, p11, p12, p13, p14, f0, f3, f4, f6, f7, f9, f10, f11, f12, f13, f14⟩ := id hm
    refine g_widen (k' := 0) (n' := 0) (by decide) (by decide) ?_
    show G D s0 p l e _ s m _ below meth c h_1 _ _ _ (F0 m 20 ls [.int (iZ (0))])
    refine g_if_eq (tgt := 25) X (by first | exact ⟨by omega, by omega⟩ | (split <;> exact ⟨by omega, by omega⟩) | exact cmpZ_ok _ _ | exact mul_ok (by omega) (by omega) (by omega) (by omega)) d_MD_block_20 (by decide) (fun c20 => ?_) (fun c20 => ?_)
    · refine g_1 (fun w => lv_aload_n X.1 X.2.1 d_MD_block_25 rfl (lv_at hl 0 rfl) w) ?_
      refine g_get X (ci := 4) rfl f0 3 (by decide) ⟨rfl, rfl⟩ tw_505 (Or.inl rfl) rfl d_MD_block_26 ?_
      refine g_1 (fun w => lv_aload_n X.1 X.2.1 d_MD_block_29 rfl (lv_at hl 0 rfl) w) ?_
      refine g_get X (ci := 4) rfl f0 1 (by decide) ⟨rfl, rfl⟩ tw_503 (Or.inl rfl) rfl d_MD_block_30 ?_
      refine g_1 (fun w => lv_iconst (v := iZ 0) X.1 X.2.1 d_MD_block_33 rfl w) ?_
      refine g_ist X f3 (Nat.succ_ne_zero _) (n) (v1) (by omega) (by omega) d_MD_block_34 ?_
      obtain ⟨h_2, eh_2⟩ : ∃ z, z = g_up h_1 p3 ((21, a), gI D 1024 (va_up (aP M) (n) (0))) := ⟨_, rfl⟩
      refine g_h (h' := h_2) eh_2.symm ?_
      have f_3 : h_2 a = some ((20, 0), .inr (4, [.int (iZ (0)), .int (iZ (mN M)), .int (iZ (mA M)), .ref p3, .ref p4, .int (iZ (mU M)), .ref p6, .ref p7, .int (iZ (mY M)), .ref p9, .ref p10, .ref p11, .ref p12, .ref p13, .ref p14])) := by rw [eh_2]; exact g_uk f0 f3 (show (20 : Nat) ≠ 21 by decide)
      have f_4 : h_2 p3 = some ((21, a), gI D 1024 (va_up (aP M) (n) (0))) := by rw [eh_2]; exact g_us
      have f_5 : h_2 p4 = some ((22, a), gI D 1024 (aB M)) := by rw [eh_2]; exact g_uk f4 f3 (show (22 : Nat) ≠ 21 by decide)
      have f_6 : h_2 p6 = some ((23, a), gI D 17408 (aY M)) := by rw [eh_2]; exact g_uk f6 f3 (show (23 : Nat) ≠ 21 by decide)
      have f_7 : h_2 p7 = some ((24, a), gL D 17408 (aG M)) := by rw [eh_2]; exact g_uk f7 f3 (show (24 : Nat) ≠ 21 by decide)
      have f_8 : h_2 p9 = some ((25, a), gI D 65536 (aC M)) := by rw [eh_2]; exact g_uk f9 f3 (show (25 : Nat) ≠ 21 by decide)
      have f_9 : h_2 p10 = some ((26, a), gI D 64 (aT M)) := by rw [eh_2]; exact g_uk f10 f3 (show (26 : Nat) ≠ 21 by decide)
      have f_10 : h_2 p11 = some ((27, a), gL D 64 (aL M)) := by rw [eh_2]; exact g_uk f11 f3 (show (27 : Nat) ≠ 21 by decide)
      have f_11 : h_2 p12 = some ((28, a), gI D 64 (aM M)) := by rw [eh_2]; exact g_uk f12 f3 (show (28 : Nat) ≠ 21 by decide)
      have f_12 : h_2 p13 = some ((29, a), gI D 1024 (aK M)) := by rw [eh_2]; exact g_uk f13 f3 (show (29 : Nat) ≠ 21 by decide)
      have f_13 : h_2 p14 = some ((30, a), gI D 1024 (aX M)) := by rw [eh_2]; exact g_uk f14 f3 (show (30 : Nat) ≠ 21 by decide)
      have hk_14 := kp_up (hkT) eh_2 f3 (⟨Nat.le_of_ble_eq_true rfl, Nat.le_of_ble_eq_true rfl⟩)
      refine g_1 (fun w => lv_aload_n X.1 X.2.1 d_MD_block_35 rfl (lv_at hl 0 rfl) w) ?_
      refine g_get X (ci := 4) rfl f_3 4 (by decide) ⟨rfl, rfl⟩ tw_506 (Or.inl rfl) rfl d_MD_block_36 ?_
      refine g_1 (fun w => lv_aload_n X.1 X.2.1 d_MD_block_39 rfl (lv_at hl 0 rfl) w) ?_
      refine g_get X (ci := 4) rfl f_3 1 (by decide) ⟨rfl, rfl⟩ tw_503 (Or.inl rfl) rfl d_MD_block_40 ?_
      refine g_1 (fun w => lv_aload_n X.1 X.2.1 d_MD_block_43 rfl (lv_at hl 0 rfl) w) ?_
      refine g_get X (ci := 4) rfl f_3 5 (by decide) ⟨rfl, rfl⟩ tw_507 (Or.inl rfl) rfl d_MD_block_44 ?_
      refine g_ist X f_5 (Nat.succ_ne_zero _) (n) (v1) (by omega) (by omega) d_MD_block_47 ?_
      obtain ⟨h_15, eh_15⟩ : ∃ z, z = g_up h_2 p4 ((22, a), gI D 1024 (va_up (aB M) (n) (mU M))) := ⟨_, rfl⟩
      refine g_h (h' := h_15) eh_15.symm ?_
      have f_16 : h_15 a = some ((20, 0), .inr (4, [.int (iZ (0)), .int (iZ (mN M)), .int (iZ (mA M)), .ref p3, .ref p4, .int (iZ (mU M)), .ref p6, .ref p7, .int (iZ (mY M)), .ref p9, .ref p10, .ref p11, .ref p12, .ref p13, .ref p14])) := by rw [eh_15]; exact g_uk f_3 f_5 (show (20 : Nat) ≠ 22 by decide)
      have f_17 : h_15 p3 = some ((21, a), gI D 1024 (va_up (aP M) (n) (0))) := by rw [eh_15]; exact g_uk f_4 f_5 (show (21 : Nat) ≠ 22 by decide)
      have f_18 : h_15 p4 = some ((22, a), gI D 1024 (va_up (aB M) (n) (mU M))) := by rw [eh_15]; exact g_us
      have f_19 : h_15 p6 = some ((23, a), gI D 17408 (aY M)) := by rw [eh_15]; exact g_uk f_6 f_5 (show (23 : Nat) ≠ 22 by decide)
      have f_20 : h_15 p7 = some ((24, a), gL D 17408 (aG M)) := by rw [eh_15]; exact g_uk f_7 f_5 (show (24 : Nat) ≠ 22 by decide)
      have f_21 : h_15 p9 = some ((25, a), gI D 65536 (aC M)) := by rw [eh_15]; exact g_uk f_8 f_5 (show (25 : Nat) ≠ 22 by decide)
      have f_22 : h_15 p10 = some ((26, a), gI D 64 (aT M)) := by rw [eh_15]; exact g_uk f_9 f_5 (show (26 : Nat) ≠ 22 by decide)
      have f_23 : h_15 p11 = some ((27, a), gL D 64 (aL M)) := by rw [eh_15]; exact g_uk f_10 f_5 (show (27 : Nat) ≠ 22 by decide)
      have f_24 : h_15 p12 = some ((28, a), gI D 64 (aM M)) := by rw [eh_15]; exact g_uk f_11 f_5 (show (28 : Nat) ≠ 22 by decide)
      have f_25 : h_15 p13 = some ((29, a), gI D 1024 (aK M)) := by rw [eh_15]; exact g_uk f_12 f_5 (show (29 : Nat) ≠ 22 by decide)
      have f_26 : h_15 p14 = some ((30, a), gI D 1024 (aX M)) := by rw [eh_15]; exact g_uk f_13 f_5 (show (30 : Nat) ≠ 22 by decide)
      have hk_27 := kp_up (hk_14) eh_15 f_5 (⟨Nat.le_of_ble_eq_true rfl, Nat.le_of_ble_eq_true rfl⟩)
      refine g_1 (fun w => lv_aload_n X.1 X.2.1 d_MD_block_48 rfl (lv_at hl 0 rfl) w) ?_
      refine g_get X (ci := 4) rfl f_16 6 (by decide) ⟨rfl, rfl⟩ tw_508 (Or.inl rfl) rfl d_MD_block_49 ?_
      refine g_1 (fun w => lv_aload_n X.1 X.2.1 d_MD_block_52 rfl (lv_at hl 0 rfl) w) ?_
      refine g_get X (ci := 4) rfl f_16 5 (by decide) ⟨rfl, rfl⟩ tw_507 (Or.inl rfl) rfl d_MD_block_53 ?_
      refine g_1 (fun w => lv_iconst (v := iZ 0) X.1 X.2.1 d_MD_block_56 rfl w) ?_
      refine g_ist X f_19 (Nat.succ_ne_zero _) (beg bs n) (v3) (by omega) (by omega) d_MD_block_57 ?_
      obtain ⟨h_28, eh_28⟩ : ∃ z, z = g_up h_15 p6 ((23, a), gI D 17408 (va_up (aY M) (beg bs n) (0))) := ⟨_, rfl⟩
      refine g_h (h' := h_28) eh_28.symm ?_
      have f_29 : h_28 a = some ((20, 0), .inr (4, [.int (iZ (0)), .int (iZ (mN M)), .int (iZ (mA M)), .ref p3, .ref p4, .int (iZ (mU M)), .ref p6, .ref p7, .int (iZ (mY M)), .ref p9, .ref p10, .ref p11, .ref p12, .ref p13, .ref p14])) := by rw [eh_28]; exact g_uk f_16 f_19 (show (20 : Nat) ≠ 23 by decide)
      have f_30 : h_28 p3 = some ((21, a), gI D 1024 (va_up (aP M) (n) (0))) := by rw [eh_28]; exact g_uk f_17 f_19 (show (21 : Nat) ≠ 23 by decide)
      have f_31 : h_28 p4 = some ((22, a), gI D 1024 (va_up (aB M) (n) (mU M))) := by rw [eh_28]; exact g_uk f_18 f_19 (show (22 : Nat) ≠ 23 by decide)
      have f_32 : h_28 p6 = some ((23, a), gI D 17408 (va_up (aY M) (beg bs n) (0))) := by rw [eh_28]; exact g_us
      have f_33 : h_28 p7 = some ((24, a), gL D 17408 (aG M)) := by rw [eh_28]; exact g_uk f_20 f_19 (show (24 : Nat) ≠ 23 by decide)
      have f_34 : h_28 p9 = some ((25, a), gI D 65536 (aC M)) := by rw [eh_28]; exact g_uk f_21 f_19 (show (25 : Nat) ≠ 23 by decide)
      have f_35 : h_28 p10 = some ((26, a), gI D 64 (aT M)) := by rw [eh_28]; exact g_uk f_22 f_19 (show (26 : Nat) ≠ 23 by decide)
      have f_36 : h_28 p11 = some ((27, a), gL D 64 (aL M)) := by rw [eh_28]; exact g_uk f_23 f_19 (show (27 : Nat) ≠ 23 by decide)
      have f_37 : h_28 p12 = some ((28, a), gI D 64 (aM M)) := by rw [eh_28]; exact g_uk f_24 f_19 (show (28 : Nat) ≠ 23 by decide)
      have f_38 : h_28 p13 = some ((29, a), gI D 1024 (aK M)) := by rw [eh_28]; exact g_uk f_25 f_19 (show (29 : Nat) ≠ 23 by decide)
      have f_39 : h_28 p14 = some ((30, a), gI D 1024 (aX M)) := by rw [eh_28]; exact g_uk f_26 f_19 (show (30 : Nat) ≠ 23 by decide)
      have hk_40 := kp_up (hk_27) eh_28 f_19 (⟨Nat.le_of_ble_eq_true rfl, Nat.le_of_ble_eq_true rfl⟩)
      refine g_1 (fun w => lv_aload_n X.1 X.2.1 d_MD_block_58 rfl (lv_at hl 0 rfl) w) ?_
      refine g_get X (ci := 4) rfl f_29 7 (by decide) ⟨rfl, rfl⟩ tw_509 (Or.inl rfl) rfl d_MD_block_59 ?_
      refine g_1 (fun w => lv_aload_n X.1 X.2.1 d_MD_block_62 rfl (lv_at hl 0 rfl) w) ?_
      refine g_get X (ci := 4) rfl f_29 5 (by decide) ⟨rfl, rfl⟩ tw_507 (Or.inl rfl) rfl d_MD_block_63 ?_
      refine g_1 (fun w => lv_lconst (v := lZ 0) X.1 X.2.1 d_MD_block_66 (by decide) w) ?_
      refine g_lst X f_33 (Nat.succ_ne_zero _) (beg bs n) (v3) (by omega) (by omega) d_MD_block_67 ?_
      obtain ⟨h_41, eh_41⟩ : ∃ z, z = g_up h_28 p7 ((24, a), gL D 17408 (va_up (aG M) (beg bs n) (0))) := ⟨_, rfl⟩
      refine g_h (h' := h_41) eh_41.symm ?_
      have f_42 : h_41 a = some ((20, 0), .inr (4, [.int (iZ (0)), .int (iZ (mN M)), .int (iZ (mA M)), .ref p3, .ref p4, .int (iZ (mU M)), .ref p6, .ref p7, .int (iZ (mY M)), .ref p9, .ref p10, .ref p11, .ref p12, .ref p13, .ref p14])) := by rw [eh_41]; exact g_uk f_29 f_33 (show (20 : Nat) ≠ 24 by decide)
      have f_43 : h_41 p3 = some ((21, a), gI D 1024 (va_up (aP M) (n) (0))) := by rw [eh_41]; exact g_uk f_30 f_33 (show (21 : Nat) ≠ 24 by decide)
      have f_44 : h_41 p4 = some ((22, a), gI D 1024 (va_up (aB M) (n) (mU M))) := by rw [eh_41]; exact g_uk f_31 f_33 (show (22 : Nat) ≠ 24 by decide)
      have f_45 : h_41 p6 = some ((23, a), gI D 17408 (va_up (aY M) (beg bs n) (0))) := by rw [eh_41]; exact g_uk f_32 f_33 (show (23 : Nat) ≠ 24 by decide)
      have f_46 : h_41 p7 = some ((24, a), gL D 17408 (va_up (aG M) (beg bs n) (0))) := by rw [eh_41]; exact g_us
      have f_47 : h_41 p9 = some ((25, a), gI D 65536 (aC M)) := by rw [eh_41]; exact g_uk f_34 f_33 (show (25 : Nat) ≠ 24 by decide)
      have f_48 : h_41 p10 = some ((26, a), gI D 64 (aT M)) := by rw [eh_41]; exact g_uk f_35 f_33 (show (26 : Nat) ≠ 24 by decide)
      have f_49 : h_41 p11 = some ((27, a), gL D 64 (aL M)) := by rw [eh_41]; exact g_uk f_36 f_33 (show (27 : Nat) ≠ 24 by decide)
      have f_50 : h_41 p12 = some ((28, a), gI D 64 (aM M)) := by rw [eh_41]; exact g_uk f_37 f_33 (show (28 : Nat) ≠ 24 by decide)
      have f_51 : h_41 p13 = some ((29, a), gI D 1024 (aK M)) := by rw [eh_41]; exact g_uk f_38 f_33 (show (29 : Nat) ≠ 24 by decide)
      have f_52 : h_41 p14 = some ((30, a), gI D 1024 (aX M)) := by rw [eh_41]; exact g_uk f_39 f_33 (show (30 : Nat) ≠ 24 by decide)
      have hk_53 := kp_up (hk_40) eh_41 f_33 (⟨Nat.le_of_ble_eq_true rfl, Nat.le_of_ble_eq_true rfl⟩)
      refine g_1 (fun w => lv_aload_n X.1 X.2.1 d_MD_block_68 rfl (lv_at hl 0 rfl) w) ?_
      refine g_1 (fun w => lv_dup X.1 X.2.1 d_MD_block_69 rfl w) ?_
      refine g_get X (ci := 4) rfl f_42 5 (by decide) ⟨rfl, rfl⟩ tw_507 (Or.inl rfl) rfl d_MD_block_70 ?_
      refine g_1 (fun w => lv_iconst (v := iZ 1) X.1 X.2.1 d_MD_block_73 rfl w) ?_
      refine g_iadd X d_MD_block_74 ?_
      refine g_put X (ci := 4) rfl f_42 (Nat.succ_ne_zero _) 5 (by decide) ⟨rfl, rfl⟩ tw_507 (Or.inl rfl) rfl rfl rfl (Nat.le_of_ble_eq_true rfl) d_MD_block_75 ?_
      obtain ⟨h_54, eh_54⟩ : ∃ z, z = g_up h_41 a ((20, 0), .inr (4, [.int (iZ (0)), .int (iZ (mN M)), .int (iZ (mA M)), .ref p3, .ref p4, .int (iZ (mU M + 1)), .ref p6, .ref p7, .int (iZ (mY M)), .ref p9, .ref p10, .ref p11, .ref p12, .ref p13, .ref p14])) := ⟨_, rfl⟩
      refine g_h (h' := h_54) eh_54.symm ?_
      have f_55 : h_54 a = some ((20, 0), .inr (4, [.int (iZ (0)), .int (iZ (mN M)), .int (iZ (mA M)), .ref p3, .ref p4, .int (iZ (mU M + 1)), .ref p6, .ref p7, .int (iZ (mY M)), .ref p9, .ref p10, .ref p11, .ref p12, .ref p13, .ref p14])) := by rw [eh_54]; exact g_us
      have f_56 : h_54 p3 = some ((21, a), gI D 1024 (va_up (aP M) (n) (0))) := by rw [eh_54]; exact g_uk f_43 f_42 (show (21 : Nat) ≠ 20 by decide)
      have f_57 : h_54 p4 = some ((22, a), gI D 1024 (va_up (aB M) (n) (mU M))) := by rw [eh_54]; exact g_uk f_44 f_42 (show (22 : Nat) ≠ 20 by decide)
      have f_58 : h_54 p6 = some ((23, a), gI D 17408 (va_up (aY M) (beg bs n) (0))) := by rw [eh_54]; exact g_uk f_45 f_42 (show (23 : Nat) ≠ 20 by decide)
      have f_59 : h_54 p7 = some ((24, a), gL D 17408 (va_up (aG M) (beg bs n) (0))) := by rw [eh_54]; exact g_uk f_46 f_42 (show (24 : Nat) ≠ 20 by decide)
      have f_60 : h_54 p9 = some ((25, a), gI D 65536 (aC M)) := by rw [eh_54]; exact g_uk f_47 f_42 (show (25 : Nat) ≠ 20 by decide)
      have f_61 : h_54 p10 = some ((26, a), gI D 64 (aT M)) := by rw [eh_54]; exact g_uk f_48 f_42 (show (26 : Nat) ≠ 20 by decide)
      have f_62 : h_54 p11 = some ((27, a), gL D 64 (aL M)) := by rw [eh_54]; exact g_uk f_49 f_42 (show (27 : Nat) ≠ 20 by decide)
      have f_63 : h_54 p12 = some ((28, a), gI D 64 (aM M)) := by rw [eh_54]; exact g_uk f_50 f_42 (show (28 : Nat) ≠ 20 by decide)
      have f_64 : h_54 p13 = some ((29, a), gI D 1024 (aK M)) := by rw [eh_54]; exact g_uk f_51 f_42 (show (29 : Nat) ≠ 20 by decide)
      have f_65 : h_54 p14 = some ((30, a), gI D 1024 (aX M)) := by rw [eh_54]; exact g_uk f_52 f_42 (show (30 : Nat) ≠ 20 by decide)
      have hk_66 := kp_up (hk_53) eh_54 f_42 (⟨Nat.le_of_ble_eq_true rfl, Nat.le_of_ble_eq_true rfl⟩)
      refine g_1 (fun w => lv_aload_n X.1 X.2.1 d_MD_block_78 rfl (lv_at hl 0 rfl) w) ?_
      refine g_1 (fun w => lv_dup X.1 X.2.1 d_MD_block_79 rfl w) ?_
      refine g_get X (ci := 4) rfl f_55 1 (by decide) ⟨rfl, rfl⟩ tw_503 (Or.inl rfl) rfl d_MD_block_80 ?_
      refine g_1 (fun w => lv_iconst (v := iZ 1) X.1 X.2.1 d_MD_block_83 rfl w) ?_
      refine g_iadd X d_MD_block_84 ?_
      refine g_put X (ci := 4) rfl f_55 (Nat.succ_ne_zero _) 1 (by decide) ⟨rfl, rfl⟩ tw_503 (Or.inl rfl) rfl rfl rfl (Nat.le_of_ble_eq_true rfl) d_MD_block_85 ?_
      obtain ⟨h_67, eh_67⟩ : ∃ z, z = g_up h_54 a ((20, 0), .inr (4, [.int (iZ (0)), .int (iZ (mN M + 1)), .int (iZ (mA M)), .ref p3, .ref p4, .int (iZ (mU M + 1)), .ref p6, .ref p7, .int (iZ (mY M)), .ref p9, .ref p10, .ref p11, .ref p12, .ref p13, .ref p14])) := ⟨_, rfl⟩
      refine g_h (h' := h_67) eh_67.symm ?_
      have f_68 : h_67 a = some ((20, 0), .inr (4, [.int (iZ (0)), .int (iZ (mN M + 1)), .int (iZ (mA M)), .ref p3, .ref p4, .int (iZ (mU M + 1)), .ref p6, .ref p7, .int (iZ (mY M)), .ref p9, .ref p10, .ref p11, .ref p12, .ref p13, .ref p14])) := by rw [eh_67]; exact g_us
      have f_69 : h_67 p3 = some ((21, a), gI D 1024 (va_up (aP M) (n) (0))) := by rw [eh_67]; exact g_uk f_56 f_55 (show (21 : Nat) ≠ 20 by decide)
      have f_70 : h_67 p4 = some ((22, a), gI D 1024 (va_up (aB M) (n) (mU M))) := by rw [eh_67]; exact g_uk f_57 f_55 (show (22 : Nat) ≠ 20 by decide)
      have f_71 : h_67 p6 = some ((23, a), gI D 17408 (va_up (aY M) (beg bs n) (0))) := by rw [eh_67]; exact g_uk f_58 f_55 (show (23 : Nat) ≠ 20 by decide)
      have f_72 : h_67 p7 = some ((24, a), gL D 17408 (va_up (aG M) (beg bs n) (0))) := by rw [eh_67]; exact g_uk f_59 f_55 (show (24 : Nat) ≠ 20 by decide)
      have f_73 : h_67 p9 = some ((25, a), gI D 65536 (aC M)) := by rw [eh_67]; exact g_uk f_60 f_55 (show (25 : Nat) ≠ 20 by decide)
      have f_74 : h_67 p10 = some ((26, a), gI D 64 (aT M)) := by rw [eh_67]; exact g_uk f_61 f_55 (show (26 : Nat) ≠ 20 by decide)
      have f_75 : h_67 p11 = some ((27, a), gL D 64 (aL M)) := by rw [eh_67]; exact g_uk f_62 f_55 (show (27 : Nat) ≠ 20 by decide)
      have f_76 : h_67 p12 = some ((28, a), gI D 64 (aM M)) := by rw [eh_67]; exact g_uk f_63 f_55 (show (28 : Nat) ≠ 20 by decide)
      have f_77 : h_67 p13 = some ((29, a), gI D 1024 (aK M)) := by rw [eh_67]; exact g_uk f_64 f_55 (show (29 : Nat) ≠ 20 by decide)
      have f_78 : h_67 p14 = some ((30, a), gI D 1024 (aX M)) := by rw [eh_67]; exact g_uk f_65 f_55 (show (30 : Nat) ≠ 20 by decide)
      have hk_79 := kp_up (hk_66) eh_67 f_55 (⟨Nat.le_of_ble_eq_true rfl, Nat.le_of_ble_eq_true rfl⟩)
      refine g_1 (fun w => lv_aload_n X.1 X.2.1 d_MD_block_88 rfl (lv_at hl 0 rfl) w) ?_
      refine g_1 (fun w => lv_iconst (v := iZ 0) X.1 X.2.1 d_MD_block_89 rfl w) ?_
      refine g_put X (ci := 4) rfl f_68 (Nat.succ_ne_zero _) 8 (by decide) ⟨rfl, rfl⟩ tw_510 (Or.inl rfl) rfl rfl rfl (Nat.le_of_ble_eq_true rfl) d_MD_block_90 ?_
      obtain ⟨h_80, eh_80⟩ : ∃ z, z = g_up h_67 a ((20, 0), .inr (4, [.int (iZ (0)), .int (iZ (mN M + 1)), .int (iZ (mA M)), .ref p3, .ref p4, .int (iZ (mU M + 1)), .ref p6, .ref p7, .int (iZ (0)), .ref p9, .ref p10, .ref p11, .ref p12, .ref p13, .ref p14])) := ⟨_, rfl⟩
      refine g_h (h' := h_80) eh_80.symm ?_
      have f_81 : h_80 a = some ((20, 0), .inr (4, [.int (iZ (0)), .int (iZ (mN M + 1)), .int (iZ (mA M)), .ref p3, .ref p4, .int (iZ (mU M + 1)), .ref p6, .ref p7, .int (iZ (0)), .ref p9, .ref p10, .ref p11, .ref p12, .ref p13, .ref p14])) := by rw [eh_80]; exact g_us
      have f_82 : h_80 p3 = some ((21, a), gI D 1024 (va_up (aP M) (n) (0))) := by rw [eh_80]; exact g_uk f_69 f_68 (show (21 : Nat) ≠ 20 by decide)
      have f_83 : h_80 p4 = some ((22, a), gI D 1024 (va_up (aB M) (n) (mU M))) := by rw [eh_80]; exact g_uk f_70 f_68 (show (22 : Nat) ≠ 20 by decide)
      have f_84 : h_80 p6 = some ((23, a), gI D 17408 (va_up (aY M) (beg bs n) (0))) := by rw [eh_80]; exact g_uk f_71 f_68 (show (23 : Nat) ≠ 20 by decide)
      have f_85 : h_80 p7 = some ((24, a), gL D 17408 (va_up (aG M) (beg bs n) (0))) := by rw [eh_80]; exact g_uk f_72 f_68 (show (24 : Nat) ≠ 20 by decide)
      have f_86 : h_80 p9 = some ((25, a), gI D 65536 (aC M)) := by rw [eh_80]; exact g_uk f_73 f_68 (show (25 : Nat) ≠ 20 by decide)
      have f_87 : h_80 p10 = some ((26, a), gI D 64 (aT M)) := by rw [eh_80]; exact g_uk f_74 f_68 (show (26 : Nat) ≠ 20 by decide)
      have f_88 : h_80 p11 = some ((27, a), gL D 64 (aL M)) := by rw [eh_80]; exact g_uk f_75 f_68 (show (27 : Nat) ≠ 20 by decide)
      have f_89 : h_80 p12 = some ((28, a), gI D 64 (aM M)) := by rw [eh_80]; exact g_uk f_76 f_68 (show (28 : Nat) ≠ 20 by decide)
      have f_90 : h_80 p13 = some ((29, a), gI D 1024 (aK M)) := by rw [eh_80]; exact g_uk f_77 f_68 (show (29 : Nat) ≠ 20 by decide)
      have f_91 : h_80 p14 = some ((30, a), gI D 1024 (aX M)) := by rw [eh_80]; exact g_uk f_78 f_68 (show (30 : Nat) ≠ 20 by decide)
      have hk_92 := kp_up (hk_79) eh_80 f_68 (⟨Nat.le_of_ble_eq_true rfl, Nat.le_of_ble_eq_true rfl⟩)
      refine g_1 (fun w => lv_aload_n X.1 X.2.1 d_MD_block_93 rfl (lv_at hl 0 rfl) w) ?_
      refine g_get X (ci := 4) rfl f_81 1 (by decide) ⟨rfl, rfl⟩ tw_503 (Or.inl rfl) rfl d_MD_block_94 ?_
      refine g_1 (fun w => lv_iconst (v := iZ 1) X.1 X.2.1 d_MD_block_97 rfl w) ?_
      refine g_isub X d_MD_block_98 ?_
      exact g_iret X (⟨0, n, g_ei (by omega), hk_92, Or.inr ⟨by omega, rfl, rfl, ⟨p3, p4, p6, p7, p9, p10, p11, p12, p13, p14, f_81, f_82, f_83, f_84, f_85, f_86, f_87, f_88, f_89, f_90, f_91⟩⟩⟩) (by decide) (by decide) d_MD_block_99
    · exact absurd c20 (by decide)
  · refine g_1 (fun w => lv_iconst (v := iZ 1) X.1 X.2.1 d_MD_block_11 rfl w) ?_
    refine g_goto (tgt := 16) X d_MD_block_12 (by decide) ?_
    refine g_1 (fun w => lv_iconst (v := iZ 0) X.1 X.2.1 d_MD_block_16 rfl w) ?_
    refine g_callV (na := 2) X (c_MD_throwing B0 hm ⟨by omega, by omega⟩ ⟨by omega, by omega⟩ (t := 1) (by decide) (r := 1) (by decide)) rfl f0 rfl ⟨⟨tw_563, tw_5⟩, ⟨by decide, by decide, by decide +kernel⟩, by decide, by decide⟩ tw_560 tw_562 ts_MD_throwing rfl hl.1 (Nat.le_of_ble_eq_true rfl) ⟨by decide, by decide⟩ d_MD_block_17 (fun v h_93 hp => ?_)
    obtain ⟨rfl, hm, hkT⟩ := hp
    obtain ⟨p3, p4, p6, p7, p9, p10, p11, p12, p13, p14, f0, f3, f4, f6, f7, f9, f10, f11, f12, f13, f14⟩ := id hm
    refine g_widen (k' := 0) (n' := 0) (by decide) (by decide) ?_
    show G D s0 p l e _ s m _ below meth c h_93 _ _ _ (F0 m 20 ls [.int (iZ (1))])
    refine g_if_eq (tgt := 25) X (by first | exact ⟨by omega, by omega⟩ | (split <;> exact ⟨by omega, by omega⟩) | exact cmpZ_ok _ _ | exact mul_ok (by omega) (by omega) (by omega) (by omega)) d_MD_block_20 (by decide) (fun c20 => ?_) (fun c20 => ?_)
    · exact absurd c20 (by decide)
    · refine g_1 (fun w => lv_iconst (v := iZ 0) X.1 X.2.1 d_MD_block_23 rfl w) ?_
      exact g_iret X (⟨1, 0, rfl, hkT, Or.inl ⟨by omega, rfl, hm⟩⟩) (by decide) (by decide) d_MD_block_24

set_option maxHeartbeats 4000000 in
set_option maxRecDepth 100000 in
theorem c_MD_init {D : va_G} {s0 : State} {l : Launch} {h : gH} (B0 : gB D s0) {a : Nat} (fA : h a = some ((20, 0), .inr (4, [.int (iZ 0), .int (iZ 0), .int (iZ 0), .null, .null, .int (iZ 0), .null, .null, .int (iZ 0), .null, .null, .null, .null, .null, .null]))) : gMet D s0 l y_MD_init b_MD_init 1 none ({ frames := 1, cells := 10, slots := 104640, locals := 12 } : Room) [.ref a] h (fun v h' => none = v ∧ isMD D h' a (0, 0, 0, 0, 0, fun _ => 0, fun _ => 0, fun _ => 0, fun _ => 0, fun _ => 0, fun _ => 0, fun _ => 0, fun _ => 0, fun _ => 0, fun _ => 0) ∧ kp (fun q t => q = a) h h') := by
  refine g_enter B0 (plainFor_of_name (by decide)) (Nat.le_of_ble_eq_true rfl) (fun p e s m below meth c ls X hnm hl => ?_)
  have hl : lv_has ls 1 [(0, .ref a)] := hl
  refine g_1 (fun w => lv_aload_n X.1 X.2.1 d_MD_init_0 rfl (lv_at hl 0 rfl) w) ?_
  refine g_obj X tw_500 hl.1 d_MD_init_1 (by decide) (by decide) ?_
  refine g_1 (fun w => lv_aload_n X.1 X.2.1 d_MD_init_4 rfl (lv_at hl 0 rfl) w) ?_
  refine g_1 (fun w => lv_sipush (v := iZ 1024) X.1 X.2.1 d_MD_init_5 (by decide) w) ?_
  refine g_newi X (1024) (rfl) (by omega) (fun z => (21, a)) (by decide) (by decide) d_MD_init_8 (fun na_1 hfna_1 => ?_)
  obtain ⟨h_2, eh_2⟩ : ∃ z, z = g_up h na_1 ((21, a), gI D 1024 (fun _ => 0)) := ⟨_, rfl⟩
  refine g_h (h' := h_2) eh_2.symm ?_
  have f_3 : h_2 a = some ((20, 0), .inr (4, [.int (iZ (0)), .int (iZ (0)), .int (iZ (0)), .null, .null, .int (iZ (0)), .null, .null, .int (iZ (0)), .null, .null, .null, .null, .null, .null])) := by rw [eh_2]; exact g_uf fA hfna_1
  have f_4 : h_2 na_1 = some ((21, a), gI D 1024 (fun _ => 0)) := by rw [eh_2]; exact g_us
  have hk_5 := kp_new (kp_rf (P := (fun q t => q = a)) (h := h)) eh_2 hfna_1
  refine g_putF X hnm (ci := 4) rfl f_3 (Nat.succ_ne_zero _) 3 (by decide) ⟨rfl, rfl⟩ rfl tw_505 rfl rfl rfl (Nat.le_of_ble_eq_true rfl) d_MD_init_10 ?_
  obtain ⟨h_6, eh_6⟩ : ∃ z, z = g_up h_2 a ((20, 0), .inr (4, [.int (iZ (0)), .int (iZ (0)), .int (iZ (0)), .ref na_1, .null, .int (iZ (0)), .null, .null, .int (iZ (0)), .null, .null, .null, .null, .null, .null])) := ⟨_, rfl⟩
  refine g_h (h' := h_6) eh_6.symm ?_
  have f_7 : h_6 a = some ((20, 0), .inr (4, [.int (iZ (0)), .int (iZ (0)), .int (iZ (0)), .ref na_1, .null, .int (iZ (0)), .null, .null, .int (iZ (0)), .null, .null, .null, .null, .null, .null])) := by rw [eh_6]; exact g_us
  have f_8 : h_6 na_1 = some ((21, a), gI D 1024 (fun _ => 0)) := by rw [eh_6]; exact g_uk f_4 f_3 (show (21 : Nat) ≠ 20 by decide)
  have hk_9 := kp_up (hk_5) eh_6 f_3 (rfl)
  refine g_1 (fun w => lv_aload_n X.1 X.2.1 d_MD_init_13 rfl (lv_at hl 0 rfl) w) ?_
  refine g_1 (fun w => lv_sipush (v := iZ 1024) X.1 X.2.1 d_MD_init_14 (by decide) w) ?_
  refine g_newi X (1024) (rfl) (by omega) (fun z => (22, a)) (by decide) (by decide) d_MD_init_17 (fun na_10 hfna_10 => ?_)
  obtain ⟨h_11, eh_11⟩ : ∃ z, z = g_up h_6 na_10 ((22, a), gI D 1024 (fun _ => 0)) := ⟨_, rfl⟩
  refine g_h (h' := h_11) eh_11.symm ?_
  have f_12 : h_11 a = some ((20, 0), .inr (4, [.int (iZ (0)), .int (iZ (0)), .int (iZ (0)), .ref na_1, .null, .int (iZ (0)), .null, .null, .int (iZ (0)), .null, .null, .null, .null, .null, .null])) := by rw [eh_11]; exact g_uf f_7 hfna_10
  have f_13 : h_11 na_1 = some ((21, a), gI D 1024 (fun _ => 0)) := by rw [eh_11]; exact g_uf f_8 hfna_10
  have f_14 : h_11 na_10 = some ((22, a), gI D 1024 (fun _ => 0)) := by rw [eh_11]; exact g_us
  have hk_15 := kp_new (hk_9) eh_11 hfna_10
  refine g_putF X hnm (ci := 4) rfl f_12 (Nat.succ_ne_zero _) 4 (by decide) ⟨rfl, rfl⟩ rfl tw_506 rfl rfl rfl (Nat.le_of_ble_eq_true rfl) d_MD_init_19 ?_
  obtain ⟨h_16, eh_16⟩ : ∃ z, z = g_up h_11 a ((20, 0), .inr (4, [.int (iZ (0)), .int (iZ (0)), .int (iZ (0)), .ref na_1, .ref na_10, .int (iZ (0)), .null, .null, .int (iZ (0)), .null, .null, .null, .null, .null, .null])) := ⟨_, rfl⟩
  refine g_h (h' := h_16) eh_16.symm ?_
  have f_17 : h_16 a = some ((20, 0), .inr (4, [.int (iZ (0)), .int (iZ (0)), .int (iZ (0)), .ref na_1, .ref na_10, .int (iZ (0)), .null, .null, .int (iZ (0)), .null, .null, .null, .null, .null, .null])) := by rw [eh_16]; exact g_us
  have f_18 : h_16 na_1 = some ((21, a), gI D 1024 (fun _ => 0)) := by rw [eh_16]; exact g_uk f_13 f_12 (show (21 : Nat) ≠ 20 by decide)
  have f_19 : h_16 na_10 = some ((22, a), gI D 1024 (fun _ => 0)) := by rw [eh_16]; exact g_uk f_14 f_12 (show (22 : Nat) ≠ 20 by decide)
  have hk_20 := kp_up (hk_15) eh_16 f_12 (rfl)
  refine g_1 (fun w => lv_aload_n X.1 X.2.1 d_MD_init_22 rfl (lv_at hl 0 rfl) w) ?_
  refine g_1 (fun w => lv_sipush (v := iZ 17408) X.1 X.2.1 d_MD_init_23 (by decide) w) ?_
  refine g_newi X (17408) (rfl) (by omega) (fun z => (23, a)) (by decide) (by decide) d_MD_init_26 (fun na_21 hfna_21 => ?_)
  obtain ⟨h_22, eh_22⟩ : ∃ z, z = g_up h_16 na_21 ((23, a), gI D 17408 (fun _ => 0)) := ⟨_, rfl⟩
  refine g_h (h' := h_22) eh_22.symm ?_
  have f_23 : h_22 a = some ((20, 0), .inr (4, [.int (iZ (0)), .int (iZ (0)), .int (iZ (0)), .ref na_1, .ref na_10, .int (iZ (0)), .null, .null, .int (iZ (0)), .null, .null, .null, .null, .null, .null])) := by rw [eh_22]; exact g_uf f_17 hfna_21
  have f_24 : h_22 na_1 = some ((21, a), gI D 1024 (fun _ => 0)) := by rw [eh_22]; exact g_uf f_18 hfna_21
  have f_25 : h_22 na_10 = some ((22, a), gI D 1024 (fun _ => 0)) := by rw [eh_22]; exact g_uf f_19 hfna_21
  have f_26 : h_22 na_21 = some ((23, a), gI D 17408 (fun _ => 0)) := by rw [eh_22]; exact g_us
  have hk_27 := kp_new (hk_20) eh_22 hfna_21
  refine g_putF X hnm (ci := 4) rfl f_23 (Nat.succ_ne_zero _) 6 (by decide) ⟨rfl, rfl⟩ rfl tw_508 rfl rfl rfl (Nat.le_of_ble_eq_true rfl) d_MD_init_28 ?_
  obtain ⟨h_28, eh_28⟩ : ∃ z, z = g_up h_22 a ((20, 0), .inr (4, [.int (iZ (0)), .int (iZ (0)), .int (iZ (0)), .ref na_1, .ref na_10, .int (iZ (0)), .ref na_21, .null, .int (iZ (0)), .null, .null, .null, .null, .null, .null])) := ⟨_, rfl⟩
  refine g_h (h' := h_28) eh_28.symm ?_
  have f_29 : h_28 a = some ((20, 0), .inr (4, [.int (iZ (0)), .int (iZ (0)), .int (iZ (0)), .ref na_1, .ref na_10, .int (iZ (0)), .ref na_21, .null, .int (iZ (0)), .null, .null, .null, .null, .null, .null])) := by rw [eh_28]; exact g_us
  have f_30 : h_28 na_1 = some ((21, a), gI D 1024 (fun _ => 0)) := by rw [eh_28]; exact g_uk f_24 f_23 (show (21 : Nat) ≠ 20 by decide)
  have f_31 : h_28 na_10 = some ((22, a), gI D 1024 (fun _ => 0)) := by rw [eh_28]; exact g_uk f_25 f_23 (show (22 : Nat) ≠ 20 by decide)
  have f_32 : h_28 na_21 = some ((23, a), gI D 17408 (fun _ => 0)) := by rw [eh_28]; exact g_uk f_26 f_23 (show (23 : Nat) ≠ 20 by decide)
  have hk_33 := kp_up (hk_27) eh_28 f_23 (rfl)
  refine g_1 (fun w => lv_aload_n X.1 X.2.1 d_MD_init_31 rfl (lv_at hl 0 rfl) w) ?_
  refine g_1 (fun w => lv_sipush (v := iZ 17408) X.1 X.2.1 d_MD_init_32 (by decide) w) ?_
  refine g_newl X (17408) (rfl) (by omega) (fun z => (24, a)) (by decide) (by decide) d_MD_init_35 (fun na_34 hfna_34 => ?_)
  obtain ⟨h_35, eh_35⟩ : ∃ z, z = g_up h_28 na_34 ((24, a), gL D 17408 (fun _ => 0)) := ⟨_, rfl⟩
  refine g_h (h' := h_35) eh_35.symm ?_
  have f_36 : h_35 a = some ((20, 0), .inr (4, [.int (iZ (0)), .int (iZ (0)), .int (iZ (0)), .ref na_1, .ref na_10, .int (iZ (0)), .ref na_21, .null, .int (iZ (0)), .null, .null, .null, .null, .null, .null])) := by rw [eh_35]; exact g_uf f_29 hfna_34
  have f_37 : h_35 na_1 = some ((21, a), gI D 1024 (fun _ => 0)) := by rw [eh_35]; exact g_uf f_30 hfna_34
  have f_38 : h_35 na_10 = some ((22, a), gI D 1024 (fun _ => 0)) := by rw [eh_35]; exact g_uf f_31 hfna_34
  have f_39 : h_35 na_21 = some ((23, a), gI D 17408 (fun _ => 0)) := by rw [eh_35]; exact g_uf f_32 hfna_34
  have f_40 : h_35 na_34 = some ((24, a), gL D 17408 (fun _ => 0)) := by rw [eh_35]; exact g_us
  have hk_41 := kp_new (hk_33) eh_35 hfna_34
  refine g_putF X hnm (ci := 4) rfl f_36 (Nat.succ_ne_zero _) 7 (by decide) ⟨rfl, rfl⟩ rfl tw_509 rfl rfl rfl (Nat.le_of_ble_eq_true rfl) d_MD_init_37 ?_
  obtain ⟨h_42, eh_42⟩ : ∃ z, z = g_up h_35 a ((20, 0), .inr (4, [.int (iZ (0)), .int (iZ (0)), .int (iZ (0)), .ref na_1, .ref na_10, .int (iZ (0)), .ref na_21, .ref na_34, .int (iZ (0)), .null, .null, .null, .null, .null, .null])) := ⟨_, rfl⟩
  refine g_h (h' := h_42) eh_42.symm ?_
  have f_43 : h_42 a = some ((20, 0), .inr (4, [.int (iZ (0)), .int (iZ (0)), .int (iZ (0)), .ref na_1, .ref na_10, .int (iZ (0)), .ref na_21, .ref na_34, .int (iZ (0)), .null, .null, .null, .null, .null, .null])) := by rw [eh_42]; exact g_us
  have f_44 : h_42 na_1 = some ((21, a), gI D 1024 (fun _ => 0)) := by rw [eh_42]; exact g_uk f_37 f_36 (show (21 : Nat) ≠ 20 by decide)
  have f_45 : h_42 na_10 = some ((22, a), gI D 1024 (fun _ => 0)) := by rw [eh_42]; exact g_uk f_38 f_36 (show (22 : Nat) ≠ 20 by decide)
  have f_46 : h_42 na_21 = some ((23, a), gI D 17408 (fun _ => 0)) := by rw [eh_42]; exact g_uk f_39 f_36 (show (23 : Nat) ≠ 20 by decide)
  have f_47 : h_42 na_34 = some ((24, a), gL D 17408 (fun _ => 0)) := by rw [eh_42]; exact g_uk f_40 f_36 (show (24 : Nat) ≠ 20 by decide)
  have hk_48 := kp_up (hk_41) eh_42 f_36 (rfl)
  refine g_1 (fun w => lv_aload_n X.1 X.2.1 d_MD_init_40 rfl (lv_at hl 0 rfl) w) ?_
  refine g_1 (fun w => lv_ldc X.1 X.2.1 X.2.2.2.2.2.1 (X.w tw_501 rfl) d_MD_init_41 w) ?_
  refine g_ti (show _ = iZ 65536 by decide) ?_
  refine g_newi X (65536) (rfl) (by omega) (fun z => (25, a)) (by decide) (by decide) d_MD_init_43 (fun na_49 hfna_49 => ?_)
  obtain ⟨h_50, eh_50⟩ : ∃ z, z = g_up h_42 na_49 ((25, a), gI D 65536 (fun _ => 0)) := ⟨_, rfl⟩
  refine g_h (h' := h_50) eh_50.symm ?_
  have f_51 : h_50 a = some ((20, 0), .inr (4, [.int (iZ (0)), .int (iZ (0)), .int (iZ (0)), .ref na_1, .ref na_10, .int (iZ (0)), .ref na_21, .ref na_34, .int (iZ (0)), .null, .null, .null, .null, .null, .null])) := by rw [eh_50]; exact g_uf f_43 hfna_49
  have f_52 : h_50 na_1 = some ((21, a), gI D 1024 (fun _ => 0)) := by rw [eh_50]; exact g_uf f_44 hfna_49
  have f_53 : h_50 na_10 = some ((22, a), gI D 1024 (fun _ => 0)) := by rw [eh_50]; exact g_uf f_45 hfna_49
  have f_54 : h_50 na_21 = some ((23, a), gI D 17408 (fun _ => 0)) := by rw [eh_50]; exact g_uf f_46 hfna_49
  have f_55 : h_50 na_34 = some ((24, a), gL D 17408 (fun _ => 0)) := by rw [eh_50]; exact g_uf f_47 hfna_49
  have f_56 : h_50 na_49 = some ((25, a), gI D 65536 (fun _ => 0)) := by rw [eh_50]; exact g_us
  have hk_57 := kp_new (hk_48) eh_50 hfna_49
  refine g_putF X hnm (ci := 4) rfl f_51 (Nat.succ_ne_zero _) 9 (by decide) ⟨rfl, rfl⟩ rfl tw_511 rfl rfl rfl (Nat.le_of_ble_eq_true rfl) d_MD_init_45 ?_
  obtain ⟨h_58, eh_58⟩ : ∃ z, z = g_up h_50 a ((20, 0), .inr (4, [.int (iZ (0)), .int (iZ (0)), .int (iZ (0)), .ref na_1, .ref na_10, .int (iZ (0)), .ref na_21, .ref na_34, .int (iZ (0)), .ref na_49, .null, .null, .null, .null, .null])) := ⟨_, rfl⟩
  refine g_h (h' := h_58) eh_58.symm ?_
  have f_59 : h_58 a = some ((20, 0), .inr (4, [.int (iZ (0)), .int (iZ (0)), .int (iZ (0)), .ref na_1, .ref na_10, .int (iZ (0)), .ref na_21, .ref na_34, .int (iZ (0)), .ref na_49, .null, .null, .null, .null, .null])) := by rw [eh_58]; exact g_us
  have f_60 : h_58 na_1 = some ((21, a), gI D 1024 (fun _ => 0)) := by rw [eh_58]; exact g_uk f_52 f_51 (show (21 : Nat) ≠ 20 by decide)
  have f_61 : h_58 na_10 = some ((22, a), gI D 1024 (fun _ => 0)) := by rw [eh_58]; exact g_uk f_53 f_51 (show (22 : Nat) ≠ 20 by decide)
  have f_62 : h_58 na_21 = some ((23, a), gI D 17408 (fun _ => 0)) := by rw [eh_58]; exact g_uk f_54 f_51 (show (23 : Nat) ≠ 20 by decide)
  have f_63 : h_58 na_34 = some ((24, a), gL D 17408 (fun _ => 0)) := by rw [eh_58]; exact g_uk f_55 f_51 (show (24 : Nat) ≠ 20 by decide)
  have f_64 : h_58 na_49 = some ((25, a), gI D 65536 (fun _ => 0)) := by rw [eh_58]; exact g_uk f_56 f_51 (show (25 : Nat) ≠ 20 by decide)
  have hk_65 := kp_up (hk_57) eh_58 f_51 (rfl)
  refine g_1 (fun w => lv_aload_n X.1 X.2.1 d_MD_init_48 rfl (lv_at hl 0 rfl) w) ?_
  refine g_1 (fun w => lv_bipush (v := iZ 64) X.1 X.2.1 d_MD_init_49 (by decide) w) ?_
  refine g_newi X (64) (rfl) (by omega) (fun z => (26, a)) (by decide) (by decide) d_MD_init_51 (fun na_66 hfna_66 => ?_)
  obtain ⟨h_67, eh_67⟩ : ∃ z, z = g_up h_58 na_66 ((26, a), gI D 64 (fun _ => 0)) := ⟨_, rfl⟩
  refine g_h (h' := h_67) eh_67.symm ?_
  have f_68 : h_67 a = some ((20, 0), .inr (4, [.int (iZ (0)), .int (iZ (0)), .int (iZ (0)), .ref na_1, .ref na_10, .int (iZ (0)), .ref na_21, .ref na_34, .int (iZ (0)), .ref na_49, .null, .null, .null, .null, .null])) := by rw [eh_67]; exact g_uf f_59 hfna_66
  have f_69 : h_67 na_1 = some ((21, a), gI D 1024 (fun _ => 0)) := by rw [eh_67]; exact g_uf f_60 hfna_66
  have f_70 : h_67 na_10 = some ((22, a), gI D 1024 (fun _ => 0)) := by rw [eh_67]; exact g_uf f_61 hfna_66
  have f_71 : h_67 na_21 = some ((23, a), gI D 17408 (fun _ => 0)) := by rw [eh_67]; exact g_uf f_62 hfna_66
  have f_72 : h_67 na_34 = some ((24, a), gL D 17408 (fun _ => 0)) := by rw [eh_67]; exact g_uf f_63 hfna_66
  have f_73 : h_67 na_49 = some ((25, a), gI D 65536 (fun _ => 0)) := by rw [eh_67]; exact g_uf f_64 hfna_66
  have f_74 : h_67 na_66 = some ((26, a), gI D 64 (fun _ => 0)) := by rw [eh_67]; exact g_us
  have hk_75 := kp_new (hk_65) eh_67 hfna_66
  refine g_putF X hnm (ci := 4) rfl f_68 (Nat.succ_ne_zero _) 10 (by decide) ⟨rfl, rfl⟩ rfl tw_512 rfl rfl rfl (Nat.le_of_ble_eq_true rfl) d_MD_init_53 ?_
  obtain ⟨h_76, eh_76⟩ : ∃ z, z = g_up h_67 a ((20, 0), .inr (4, [.int (iZ (0)), .int (iZ (0)), .int (iZ (0)), .ref na_1, .ref na_10, .int (iZ (0)), .ref na_21, .ref na_34, .int (iZ (0)), .ref na_49, .ref na_66, .null, .null, .null, .null])) := ⟨_, rfl⟩
  refine g_h (h' := h_76) eh_76.symm ?_
  have f_77 : h_76 a = some ((20, 0), .inr (4, [.int (iZ (0)), .int (iZ (0)), .int (iZ (0)), .ref na_1, .ref na_10, .int (iZ (0)), .ref na_21, .ref na_34, .int (iZ (0)), .ref na_49, .ref na_66, .null, .null, .null, .null])) := by rw [eh_76]; exact g_us
  have f_78 : h_76 na_1 = some ((21, a), gI D 1024 (fun _ => 0)) := by rw [eh_76]; exact g_uk f_69 f_68 (show (21 : Nat) ≠ 20 by decide)
  have f_79 : h_76 na_10 = some ((22, a), gI D 1024 (fun _ => 0)) := by rw [eh_76]; exact g_uk f_70 f_68 (show (22 : Nat) ≠ 20 by decide)
  have f_80 : h_76 na_21 = some ((23, a), gI D 17408 (fun _ => 0)) := by rw [eh_76]; exact g_uk f_71 f_68 (show (23 : Nat) ≠ 20 by decide)
  have f_81 : h_76 na_34 = some ((24, a), gL D 17408 (fun _ => 0)) := by rw [eh_76]; exact g_uk f_72 f_68 (show (24 : Nat) ≠ 20 by decide)
  have f_82 : h_76 na_49 = some ((25, a), gI D 65536 (fun _ => 0)) := by rw [eh_76]; exact g_uk f_73 f_68 (show (25 : Nat) ≠ 20 by decide)
  have f_83 : h_76 na_66 = some ((26, a), gI D 64 (fun _ => 0)) := by rw [eh_76]; exact g_uk f_74 f_68 (show (26 : Nat) ≠ 20 by decide)
  have hk_84 := kp_up (hk_75) eh_76 f_68 (rfl)
  refine g_1 (fun w => lv_aload_n X.1 X.2.1 d_MD_init_56 rfl (lv_at hl 0 rfl) w) ?_
  refine g_1 (fun w => lv_bipush (v := iZ 64) X.1 X.2.1 d_MD_init_57 (by decide) w) ?_
  refine g_newl X (64) (rfl) (by omega) (fun z => (27, a)) (by decide) (by decide) d_MD_init_59 (fun na_85 hfna_85 => ?_)
  obtain ⟨h_86, eh_86⟩ : ∃ z, z = g_up h_76 na_85 ((27, a), gL D 64 (fun _ => 0)) := ⟨_, rfl⟩
  refine g_h (h' := h_86) eh_86.symm ?_
  have f_87 : h_86 a = some ((20, 0), .inr (4, [.int (iZ (0)), .int (iZ (0)), .int (iZ (0)), .ref na_1, .ref na_10, .int (iZ (0)), .ref na_21, .ref na_34, .int (iZ (0)), .ref na_49, .ref na_66, .null, .null, .null, .null])) := by rw [eh_86]; exact g_uf f_77 hfna_85
  have f_88 : h_86 na_1 = some ((21, a), gI D 1024 (fun _ => 0)) := by rw [eh_86]; exact g_uf f_78 hfna_85
  have f_89 : h_86 na_10 = some ((22, a), gI D 1024 (fun _ => 0)) := by rw [eh_86]; exact g_uf f_79 hfna_85
  have f_90 : h_86 na_21 = some ((23, a), gI D 17408 (fun _ => 0)) := by rw [eh_86]; exact g_uf f_80 hfna_85
  have f_91 : h_86 na_34 = some ((24, a), gL D 17408 (fun _ => 0)) := by rw [eh_86]; exact g_uf f_81 hfna_85
  have f_92 : h_86 na_49 = some ((25, a), gI D 65536 (fun _ => 0)) := by rw [eh_86]; exact g_uf f_82 hfna_85
  have f_93 : h_86 na_66 = some ((26, a), gI D 64 (fun _ => 0)) := by rw [eh_86]; exact g_uf f_83 hfna_85
  have f_94 : h_86 na_85 = some ((27, a), gL D 64 (fun _ => 0)) := by rw [eh_86]; exact g_us
  have hk_95 := kp_new (hk_84) eh_86 hfna_85
  refine g_putF X hnm (ci := 4) rfl f_87 (Nat.succ_ne_zero _) 11 (by decide) ⟨rfl, rfl⟩ rfl tw_513 rfl rfl rfl (Nat.le_of_ble_eq_true rfl) d_MD_init_61 ?_
  obtain ⟨h_96, eh_96⟩ : ∃ z, z = g_up h_86 a ((20, 0), .inr (4, [.int (iZ (0)), .int (iZ (0)), .int (iZ (0)), .ref na_1, .ref na_10, .int (iZ (0)), .ref na_21, .ref na_34, .int (iZ (0)), .ref na_49, .ref na_66, .ref na_85, .null, .null, .null])) := ⟨_, rfl⟩
  refine g_h (h' := h_96) eh_96.symm ?_
  have f_97 : h_96 a = some ((20, 0), .inr (4, [.int (iZ (0)), .int (iZ (0)), .int (iZ (0)), .ref na_1, .ref na_10, .int (iZ (0)), .ref na_21, .ref na_34, .int (iZ (0)), .ref na_49, .ref na_66, .ref na_85, .null, .null, .null])) := by rw [eh_96]; exact g_us
  have f_98 : h_96 na_1 = some ((21, a), gI D 1024 (fun _ => 0)) := by rw [eh_96]; exact g_uk f_88 f_87 (show (21 : Nat) ≠ 20 by decide)
  have f_99 : h_96 na_10 = some ((22, a), gI D 1024 (fun _ => 0)) := by rw [eh_96]; exact g_uk f_89 f_87 (show (22 : Nat) ≠ 20 by decide)
  have f_100 : h_96 na_21 = some ((23, a), gI D 17408 (fun _ => 0)) := by rw [eh_96]; exact g_uk f_90 f_87 (show (23 : Nat) ≠ 20 by decide)
  have f_101 : h_96 na_34 = some ((24, a), gL D 17408 (fun _ => 0)) := by rw [eh_96]; exact g_uk f_91 f_87 (show (24 : Nat) ≠ 20 by decide)
  have f_102 : h_96 na_49 = some ((25, a), gI D 65536 (fun _ => 0)) := by rw [eh_96]; exact g_uk f_92 f_87 (show (25 : Nat) ≠ 20 by decide)
  have f_103 : h_96 na_66 = some ((26, a), gI D 64 (fun _ => 0)) := by rw [eh_96]; exact g_uk f_93 f_87 (show (26 : Nat) ≠ 20 by decide)
  have f_104 : h_96 na_85 = some ((27, a), gL D 64 (fun _ => 0)) := by rw [eh_96]; exact g_uk f_94 f_87 (show (27 : Nat) ≠ 20 by decide)
  have hk_105 := kp_up (hk_95) eh_96 f_87 (rfl)
  refine g_1 (fun w => lv_aload_n X.1 X.2.1 d_MD_init_64 rfl (lv_at hl 0 rfl) w) ?_
  refine g_1 (fun w => lv_bipush (v := iZ 64) X.1 X.2.1 d_MD_init_65 (by decide) w) ?_
  refine g_newi X (64) (rfl) (by omega) (fun z => (28, a)) (by decide) (by decide) d_MD_init_67 (fun na_106 hfna_106 => ?_)
  obtain ⟨h_107, eh_107⟩ : ∃ z, z = g_up h_96 na_106 ((28, a), gI D 64 (fun _ => 0)) := ⟨_, rfl⟩
  refine g_h (h' := h_107) eh_107.symm ?_
  have f_108 : h_107 a = some ((20, 0), .inr (4, [.int (iZ (0)), .int (iZ (0)), .int (iZ (0)), .ref na_1, .ref na_10, .int (iZ (0)), .ref na_21, .ref na_34, .int (iZ (0)), .ref na_49, .ref na_66, .ref na_85, .null, .null, .null])) := by rw [eh_107]; exact g_uf f_97 hfna_106
  have f_109 : h_107 na_1 = some ((21, a), gI D 1024 (fun _ => 0)) := by rw [eh_107]; exact g_uf f_98 hfna_106
  have f_110 : h_107 na_10 = some ((22, a), gI D 1024 (fun _ => 0)) := by rw [eh_107]; exact g_uf f_99 hfna_106
  have f_111 : h_107 na_21 = some ((23, a), gI D 17408 (fun _ => 0)) := by rw [eh_107]; exact g_uf f_100 hfna_106
  have f_112 : h_107 na_34 = some ((24, a), gL D 17408 (fun _ => 0)) := by rw [eh_107]; exact g_uf f_101 hfna_106
  have f_113 : h_107 na_49 = some ((25, a), gI D 65536 (fun _ => 0)) := by rw [eh_107]; exact g_uf f_102 hfna_106
  have f_114 : h_107 na_66 = some ((26, a), gI D 64 (fun _ => 0)) := by rw [eh_107]; exact g_uf f_103 hfna_106
  have f_115 : h_107 na_85 = some ((27, a), gL D 64 (fun _ => 0)) := by rw [eh_107]; exact g_uf f_104 hfna_106
  have f_116 : h_107 na_106 = some ((28, a), gI D 64 (fun _ => 0)) := by rw [eh_107]; exact g_us
  have hk_117 := kp_new (hk_105) eh_107 hfna_106
  refine g_putF X hnm (ci := 4) rfl f_108 (Nat.succ_ne_zero _) 12 (by decide) ⟨rfl, rfl⟩ rfl tw_514 rfl rfl rfl (Nat.le_of_ble_eq_true rfl) d_MD_init_69 ?_
  obtain ⟨h_118, eh_118⟩ : ∃ z, z = g_up h_107 a ((20, 0), .inr (4, [.int (iZ (0)), .int (iZ (0)), .int (iZ (0)), .ref na_1, .ref na_10, .int (iZ (0)), .ref na_21, .ref na_34, .int (iZ (0)), .ref na_49, .ref na_66, .ref na_85, .ref na_106, .null, .null])) := ⟨_, rfl⟩
  refine g_h (h' := h_118) eh_118.symm ?_
  have f_119 : h_118 a = some ((20, 0), .inr (4, [.int (iZ (0)), .int (iZ (0)), .int (iZ (0)), .ref na_1, .ref na_10, .int (iZ (0)), .ref na_21, .ref na_34, .int (iZ (0)), .ref na_49, .ref na_66, .ref na_85, .ref na_106, .null, .null])) := by rw [eh_118]; exact g_us
  have f_120 : h_118 na_1 = some ((21, a), gI D 1024 (fun _ => 0)) := by rw [eh_118]; exact g_uk f_109 f_108 (show (21 : Nat) ≠ 20 by decide)
  have f_121 : h_118 na_10 = some ((22, a), gI D 1024 (fun _ => 0)) := by rw [eh_118]; exact g_uk f_110 f_108 (show (22 : Nat) ≠ 20 by decide)
  have f_122 : h_118 na_21 = some ((23, a), gI D 17408 (fun _ => 0)) := by rw [eh_118]; exact g_uk f_111 f_108 (show (23 : Nat) ≠ 20 by decide)
  have f_123 : h_118 na_34 = some ((24, a), gL D 17408 (fun _ => 0)) := by rw [eh_118]; exact g_uk f_112 f_108 (show (24 : Nat) ≠ 20 by decide)
  have f_124 : h_118 na_49 = some ((25, a), gI D 65536 (fun _ => 0)) := by rw [eh_118]; exact g_uk f_113 f_108 (show (25 : Nat) ≠ 20 by decide)
  have f_125 : h_118 na_66 = some ((26, a), gI D 64 (fun _ => 0)) := by rw [eh_118]; exact g_uk f_114 f_108 (show (26 : Nat) ≠ 20 by decide)
  have f_126 : h_118 na_85 = some ((27, a), gL D 64 (fun _ => 0)) := by rw [eh_118]; exact g_uk f_115 f_108 (show (27 : Nat) ≠ 20 by decide)
  have f_127 : h_118 na_106 = some ((28, a), gI D 64 (fun _ => 0)) := by rw [eh_118]; exact g_uk f_116 f_108 (show (28 : Nat) ≠ 20 by decide)
  have hk_128 := kp_up (hk_117) eh_118 f_108 (rfl)
  refine g_1 (fun w => lv_aload_n X.1 X.2.1 d_MD_init_72 rfl (lv_at hl 0 rfl) w) ?_
  refine g_1 (fun w => lv_sipush (v := iZ 1024) X.1 X.2.1 d_MD_init_73 (by decide) w) ?_
  refine g_newi X (1024) (rfl) (by omega) (fun z => (29, a)) (by decide) (by decide) d_MD_init_76 (fun na_129 hfna_129 => ?_)
  obtain ⟨h_130, eh_130⟩ : ∃ z, z = g_up h_118 na_129 ((29, a), gI D 1024 (fun _ => 0)) := ⟨_, rfl⟩
  refine g_h (h' := h_130) eh_130.symm ?_
  have f_131 : h_130 a = some ((20, 0), .inr (4, [.int (iZ (0)), .int (iZ (0)), .int (iZ (0)), .ref na_1, .ref na_10, .int (iZ (0)), .ref na_21, .ref na_34, .int (iZ (0)), .ref na_49, .ref na_66, .ref na_85, .ref na_106, .null, .null])) := by rw [eh_130]; exact g_uf f_119 hfna_129
  have f_132 : h_130 na_1 = some ((21, a), gI D 1024 (fun _ => 0)) := by rw [eh_130]; exact g_uf f_120 hfna_129
  have f_133 : h_130 na_10 = some ((22, a), gI D 1024 (fun _ => 0)) := by rw [eh_130]; exact g_uf f_121 hfna_129
  have f_134 : h_130 na_21 = some ((23, a), gI D 17408 (fun _ => 0)) := by rw [eh_130]; exact g_uf f_122 hfna_129
  have f_135 : h_130 na_34 = some ((24, a), gL D 17408 (fun _ => 0)) := by rw [eh_130]; exact g_uf f_123 hfna_129
  have f_136 : h_130 na_49 = some ((25, a), gI D 65536 (fun _ => 0)) := by rw [eh_130]; exact g_uf f_124 hfna_129
  have f_137 : h_130 na_66 = some ((26, a), gI D 64 (fun _ => 0)) := by rw [eh_130]; exact g_uf f_125 hfna_129
  have f_138 : h_130 na_85 = some ((27, a), gL D 64 (fun _ => 0)) := by rw [eh_130]; exact g_uf f_126 hfna_129
  have f_139 : h_130 na_106 = some ((28, a), gI D 64 (fun _ => 0)) := by rw [eh_130]; exact g_uf f_127 hfna_129
  have f_140 : h_130 na_129 = some ((29, a), gI D 1024 (fun _ => 0)) := by rw [eh_130]; exact g_us
  have hk_141 := kp_new (hk_128) eh_130 hfna_129
  refine g_putF X hnm (ci := 4) rfl f_131 (Nat.succ_ne_zero _) 13 (by decide) ⟨rfl, rfl⟩ rfl tw_515 rfl rfl rfl (Nat.le_of_ble_eq_true rfl) d_MD_init_78 ?_
  obtain ⟨h_142, eh_142⟩ : ∃ z, z = g_up h_130 a ((20, 0), .inr (4, [.int (iZ (0)), .int (iZ (0)), .int (iZ (0)), .ref na_1, .ref na_10, .int (iZ (0)), .ref na_21, .ref na_34, .int (iZ (0)), .ref na_49, .ref na_66, .ref na_85, .ref na_106, .ref na_129, .null])) := ⟨_, rfl⟩
  refine g_h (h' := h_142) eh_142.symm ?_
  have f_143 : h_142 a = some ((20, 0), .inr (4, [.int (iZ (0)), .int (iZ (0)), .int (iZ (0)), .ref na_1, .ref na_10, .int (iZ (0)), .ref na_21, .ref na_34, .int (iZ (0)), .ref na_49, .ref na_66, .ref na_85, .ref na_106, .ref na_129, .null])) := by rw [eh_142]; exact g_us
  have f_144 : h_142 na_1 = some ((21, a), gI D 1024 (fun _ => 0)) := by rw [eh_142]; exact g_uk f_132 f_131 (show (21 : Nat) ≠ 20 by decide)
  have f_145 : h_142 na_10 = some ((22, a), gI D 1024 (fun _ => 0)) := by rw [eh_142]; exact g_uk f_133 f_131 (show (22 : Nat) ≠ 20 by decide)
  have f_146 : h_142 na_21 = some ((23, a), gI D 17408 (fun _ => 0)) := by rw [eh_142]; exact g_uk f_134 f_131 (show (23 : Nat) ≠ 20 by decide)
  have f_147 : h_142 na_34 = some ((24, a), gL D 17408 (fun _ => 0)) := by rw [eh_142]; exact g_uk f_135 f_131 (show (24 : Nat) ≠ 20 by decide)
  have f_148 : h_142 na_49 = some ((25, a), gI D 65536 (fun _ => 0)) := by rw [eh_142]; exact g_uk f_136 f_131 (show (25 : Nat) ≠ 20 by decide)
  have f_149 : h_142 na_66 = some ((26, a), gI D 64 (fun _ => 0)) := by rw [eh_142]; exact g_uk f_137 f_131 (show (26 : Nat) ≠ 20 by decide)
  have f_150 : h_142 na_85 = some ((27, a), gL D 64 (fun _ => 0)) := by rw [eh_142]; exact g_uk f_138 f_131 (show (27 : Nat) ≠ 20 by decide)
  have f_151 : h_142 na_106 = some ((28, a), gI D 64 (fun _ => 0)) := by rw [eh_142]; exact g_uk f_139 f_131 (show (28 : Nat) ≠ 20 by decide)
  have f_152 : h_142 na_129 = some ((29, a), gI D 1024 (fun _ => 0)) := by rw [eh_142]; exact g_uk f_140 f_131 (show (29 : Nat) ≠ 20 by decide)
  have hk_153 := kp_up (hk_141) eh_142 f_131 (rfl)
  refine g_1 (fun w => lv_aload_n X.1 X.2.1 d_MD_init_81 rfl (lv_at hl 0 rfl) w) ?_
  refine g_1 (fun w => lv_sipush (v := iZ 1024) X.1 X.2.1 d_MD_init_82 (by decide) w) ?_
  refine g_newi X (1024) (rfl) (by omega) (fun z => (30, a)) (by decide) (by decide) d_MD_init_85 (fun na_154 hfna_154 => ?_)
  obtain ⟨h_155, eh_155⟩ : ∃ z, z = g_up h_142 na_154 ((30, a), gI D 1024 (fun _ => 0)) := ⟨_, rfl⟩
  refine g_h (h' := h_155) eh_155.symm ?_
  have f_156 : h_155 a = some ((20, 0), .inr (4, [.int (iZ (0)), .int (iZ (0)), .int (iZ (0)), .ref na_1, .ref na_10, .int (iZ (0)), .ref na_21, .ref na_34, .int (iZ (0)), .ref na_49, .ref na_66, .ref na_85, .ref na_106, .ref na_129, .null])) := by rw [eh_155]; exact g_uf f_143 hfna_154
  have f_157 : h_155 na_1 = some ((21, a), gI D 1024 (fun _ => 0)) := by rw [eh_155]; exact g_uf f_144 hfna_154
  have f_158 : h_155 na_10 = some ((22, a), gI D 1024 (fun _ => 0)) := by rw [eh_155]; exact g_uf f_145 hfna_154
  have f_159 : h_155 na_21 = some ((23, a), gI D 17408 (fun _ => 0)) := by rw [eh_155]; exact g_uf f_146 hfna_154
  have f_160 : h_155 na_34 = some ((24, a), gL D 17408 (fun _ => 0)) := by rw [eh_155]; exact g_uf f_147 hfna_154
  have f_161 : h_155 na_49 = some ((25, a), gI D 65536 (fun _ => 0)) := by rw [eh_155]; exact g_uf f_148 hfna_154
  have f_162 : h_155 na_66 = some ((26, a), gI D 64 (fun _ => 0)) := by rw [eh_155]; exact g_uf f_149 hfna_154
  have f_163 : h_155 na_85 = some ((27, a), gL D 64 (fun _ => 0)) := by rw [eh_155]; exact g_uf f_150 hfna_154
  have f_164 : h_155 na_106 = some ((28, a), gI D 64 (fun _ => 0)) := by rw [eh_155]; exact g_uf f_151 hfna_154
  have f_165 : h_155 na_129 = some ((29, a), gI D 1024 (fun _ => 0)) := by rw [eh_155]; exact g_uf f_152 hfna_154
  have f_166 : h_155 na_154 = some ((30, a), gI D 1024 (fun _ => 0)) := by rw [eh_155]; exact g_us
  have hk_167 := kp_new (hk_153) eh_155 hfna_154
  refine g_putF X hnm (ci := 4) rfl f_156 (Nat.succ_ne_zero _) 14 (by decide) ⟨rfl, rfl⟩ rfl tw_516 rfl rfl rfl (Nat.le_of_ble_eq_true rfl) d_MD_init_87 ?_
  obtain ⟨h_168, eh_168⟩ : ∃ z, z = g_up h_155 a ((20, 0), .inr (4, [.int (iZ (0)), .int (iZ (0)), .int (iZ (0)), .ref na_1, .ref na_10, .int (iZ (0)), .ref na_21, .ref na_34, .int (iZ (0)), .ref na_49, .ref na_66, .ref na_85, .ref na_106, .ref na_129, .ref na_154])) := ⟨_, rfl⟩
  refine g_h (h' := h_168) eh_168.symm ?_
  have f_169 : h_168 a = some ((20, 0), .inr (4, [.int (iZ (0)), .int (iZ (0)), .int (iZ (0)), .ref na_1, .ref na_10, .int (iZ (0)), .ref na_21, .ref na_34, .int (iZ (0)), .ref na_49, .ref na_66, .ref na_85, .ref na_106, .ref na_129, .ref na_154])) := by rw [eh_168]; exact g_us
  have f_170 : h_168 na_1 = some ((21, a), gI D 1024 (fun _ => 0)) := by rw [eh_168]; exact g_uk f_157 f_156 (show (21 : Nat) ≠ 20 by decide)
  have f_171 : h_168 na_10 = some ((22, a), gI D 1024 (fun _ => 0)) := by rw [eh_168]; exact g_uk f_158 f_156 (show (22 : Nat) ≠ 20 by decide)
  have f_172 : h_168 na_21 = some ((23, a), gI D 17408 (fun _ => 0)) := by rw [eh_168]; exact g_uk f_159 f_156 (show (23 : Nat) ≠ 20 by decide)
  have f_173 : h_168 na_34 = some ((24, a), gL D 17408 (fun _ => 0)) := by rw [eh_168]; exact g_uk f_160 f_156 (show (24 : Nat) ≠ 20 by decide)
  have f_174 : h_168 na_49 = some ((25, a), gI D 65536 (fun _ => 0)) := by rw [eh_168]; exact g_uk f_161 f_156 (show (25 : Nat) ≠ 20 by decide)
  have f_175 : h_168 na_66 = some ((26, a), gI D 64 (fun _ => 0)) := by rw [eh_168]; exact g_uk f_162 f_156 (show (26 : Nat) ≠ 20 by decide)
  have f_176 : h_168 na_85 = some ((27, a), gL D 64 (fun _ => 0)) := by rw [eh_168]; exact g_uk f_163 f_156 (show (27 : Nat) ≠ 20 by decide)
  have f_177 : h_168 na_106 = some ((28, a), gI D 64 (fun _ => 0)) := by rw [eh_168]; exact g_uk f_164 f_156 (show (28 : Nat) ≠ 20 by decide)
  have f_178 : h_168 na_129 = some ((29, a), gI D 1024 (fun _ => 0)) := by rw [eh_168]; exact g_uk f_165 f_156 (show (29 : Nat) ≠ 20 by decide)
  have f_179 : h_168 na_154 = some ((30, a), gI D 1024 (fun _ => 0)) := by rw [eh_168]; exact g_uk f_166 f_156 (show (30 : Nat) ≠ 20 by decide)
  have hk_180 := kp_up (hk_167) eh_168 f_156 (rfl)
  exact g_vret X (⟨rfl, ⟨na_1, na_10, na_21, na_34, na_49, na_66, na_85, na_106, na_129, na_154, f_169, f_170, f_171, f_172, f_173, f_174, f_175, f_176, f_177, f_178, f_179⟩, hk_180⟩) (by decide) (by decide) d_MD_init_90

set_option maxHeartbeats 4000000 in
set_option maxRecDepth 100000 in
theorem c_MD_pass {D : va_G} {s0 : State} {l : Launch} {h : gH} (B0 : gB D s0) {a n : Nat} {M : Mdl} {bs : Nat → Blk} (hm : isMD D h a M) (hv : mV M n bs) (hw : ∀ b, b < n → wfC (bs b)) (hA : mA M + n = beg bs n) {i nn g : Int} (hi : i_ok i) (hj : i_ok nn) (hg : l_ok g) : gMet D s0 l y_MD_pass b_MD_pass 8 (some .int) ({ frames := 1, cells := 0, slots := 0, locals := 22 } : Room) [.ref a, .int (iZ (i)), .int (iZ (nn)), .long (lZ (g))] h (fun v h' => ∃ t r : Int, some (.int (iZ r)) = v ∧ kp P_MD h h' ∧ (((¬ (0 ≤ i ∧ i < n) ∨ nn < 0 ∨ g < -274877906944 ∨ 274877906944 < g) ∧ t = 1 ∧ isMD D h' a (1, M.2)) ∨ (¬ (¬ (0 ≤ i ∧ i < n) ∨ nn < 0 ∨ g < -274877906944 ∨ 274877906944 < g) ∧ ∃ b : Nat, (b : Int) = i ∧ b < n ∧ (((16384 ≤ mA M ∨ ¬ (bP (bs b) < 120 ∧ nn + bB (bs b) (bP (bs b)) ≤ 65535)) ∧ t = 2 ∧ isMD D h' a (2, M.2)) ∨ (¬ (16384 ≤ mA M ∨ ¬ (bP (bs b) < 120 ∧ nn + bB (bs b) (bP (bs b)) ≤ 65535)) ∧ t = 0 ∧ r = bP (bs b) + 1 ∧ ∃ M', isMD D h' a M' ∧ mT M' = 0 ∧ mY M' = 0 ∧ mA M' = mA M + 1 ∧ mV M' n (va_up bs b (grown (bs b) nn g))))))) := by
  obtain ⟨p3, p4, p6, p7, p9, p10, p11, p12, p13, p14, f0, f3, f4, f6, f7, f9, f10, f11, f12, f13, f14⟩ := id hm
  obtain ⟨v1, v2, v3, v4, v5⟩ := id hv
  obtain ⟨hi1, hi2⟩ := id hi
  obtain ⟨hj1, hj2⟩ := id hj
  obtain ⟨hg1, hg2⟩ := id hg
  refine g_enter B0 (plainFor_of_name (by decide)) (Nat.le_of_ble_eq_true rfl) (fun p e s m below meth c ls X hnm hl => ?_)
  have hl : lv_has ls 8 [(0, .ref a), (1, .int (iZ (i))), (2, .int (iZ (nn))), (3, .long (lZ (g)))] := hl
  have tail : ∀ (bi : Nat) (hbi : bi < n) (hib : (bi : Int) = i) (hnn : 0 ≤ nn) (hg3 : -274877906944 ≤ g) (hg4 : g ≤ 274877906944) (hroom : beg bs n < n + 16384) (hfl2 : ¬ (16384 ≤ mA M ∨ ¬ (bP (bs bi) < 120 ∧ nn + bB (bs bi) (bP (bs bi)) ≤ 65535))) (hh : gH) (bb_ yy_ gg_ : Nat → Int) (ls : Array Slot), isMD D hh a (0, mN M, mA M, mU M, mY M, aP M, bb_, yy_, gg_, aC M, aT M, aL M, aM M, aK M, aX M) → (∀ j, j ≤ bi → bb_ j = aB M j) → (∀ j, bi < j → j < n → bb_ j = aB M j + 1) → (∀ j, j ≤ beg bs bi + bP (bs bi) + 1 → yy_ j = aY M j ∧ gg_ j = aG M j) → (∀ j, beg bs bi + bP (bs bi) + 1 < j → j ≤ beg bs n → yy_ j = aY M (j - 1) ∧ gg_ j = aG M (j - 1)) → kp P_MD h hh → lv_has ls 8 [(6, .int (iZ (aB M bi + aP M bi))), (3, .long (lZ (g))), (2, .int (iZ (nn))), (1, .int (iZ (bi))), (0, .ref a)] → G D s0 p l e ({ frames := 1, cells := 0, slots := 0, locals := 22 } : Room) s m ([.ref a, .int (iZ (i)), .int (iZ (nn)), .long (lZ (g))] : List Value).toArray below meth c hh 0 0 (MQ below (gQ D s0 (fun v h' => ∃ t r : Int, some (.int (iZ r)) = v ∧ kp P_MD h h' ∧ (((¬ (0 ≤ i ∧ i < n) ∨ nn < 0 ∨ g < -274877906944 ∨ 274877906944 < g) ∧ t = 1 ∧ isMD D h' a (1, M.2)) ∨ (¬ (¬ (0 ≤ i ∧ i < n) ∨ nn < 0 ∨ g < -274877906944 ∨ 274877906944 < g) ∧ ∃ b : Nat, (b : Int) = i ∧ b < n ∧ (((16384 ≤ mA M ∨ ¬ (bP (bs b) < 120 ∧ nn + bB (bs b) (bP (bs b)) ≤ 65535)) ∧ t = 2 ∧ isMD D h' a (2, M.2)) ∨ (¬ (16384 ≤ mA M ∨ ¬ (bP (bs b) < 120 ∧ nn + bB (bs b) (bP (bs b)) ≤ 65535)) ∧ t = 0 ∧ r = bP (bs b) + 1 ∧ ∃ M', isMD D h' a M' ∧ mT M' = 0 ∧ mY M' = 0 ∧ mA M' = mA M + 1 ∧ mV M' n (va_up bs b (grown (bs b) nn g)))))))) ([.ref a, .int (iZ (i)), .int (iZ (nn)), .long (lZ (g))] : List Value).toArray s 0 0 (fun q => s0.heap.size ≤ q)) (F0 m 205 ls []) := by
    intro bi hbi hib hnn hg3 hg4 hroom hfl2
    obtain ⟨u1, u2, u3⟩ := v5 bi hbi
    obtain ⟨⟨⟨k1, k2, k3, k4, k5, k6, k7, k8⟩, w2, w3, w4⟩, w5, w6⟩ := id (hw bi hbi)
    have hbl := beg_lt bs hbi
    have ub := u3 (bP (bs bi)) (Nat.le_refl _)
    intro hh bb_ yy_ gg_ ls hm2 hB1 hB2 hY1 hY2 hkk hl
    obtain ⟨p3, p4, p6, p7, p9, p10, p11, p12, p13, p14, f0, f3, f4, f6, f7, f9, f10, f11, f12, f13, f14⟩ := id hm2
    have f0 : hh a = some ((20, 0), .inr (4, [.int (iZ (0)), .int (iZ (mN M)), .int (iZ (mA M)), .ref p3, .ref p4, .int (iZ (mU M)), .ref p6, .ref p7, .int (iZ (mY M)), .ref p9, .ref p10, .ref p11, .ref p12, .ref p13, .ref p14])) := f0
    have f3 : hh p3 = some ((21, a), gI D 1024 (aP M)) := f3
    have f4 : hh p4 = some ((22, a), gI D 1024 (bb_)) := f4
    have f6 : hh p6 = some ((23, a), gI D 17408 (yy_)) := f6
    have f7 : hh p7 = some ((24, a), gL D 17408 (gg_)) := f7
    have f9 : hh p9 = some ((25, a), gI D 65536 (aC M)) := f9
    have f10 : hh p10 = some ((26, a), gI D 64 (aT M)) := f10
    have f11 : hh p11 = some ((27, a), gL D 64 (aL M)) := f11
    have f12 : hh p12 = some ((28, a), gI D 64 (aM M)) := f12
    have f13 : hh p13 = some ((29, a), gI D 1024 (aK M)) := f13
    have f14 : hh p14 = some ((30, a), gI D 1024 (aX M)) := f14
    refine g_1 (fun w => lv_aload_n X.1 X.2.1 d_MD_pass_205 rfl (lv_at hl 4 rfl) w) ?_
    refine g_1 (fun w => lv_dup X.1 X.2.1 d_MD_pass_206 rfl w) ?_
    refine g_get X (ci := 4) rfl f0 5 (by decide) ⟨rfl, rfl⟩ tw_507 (Or.inl rfl) rfl d_MD_pass_207 ?_
    refine g_1 (fun w => lv_iconst (v := iZ 1) X.1 X.2.1 d_MD_pass_210 rfl w) ?_
    refine g_iadd X d_MD_pass_211 ?_
    refine g_put X (ci := 4) rfl f0 (Nat.succ_ne_zero _) 5 (by decide) ⟨rfl, rfl⟩ tw_507 (Or.inl rfl) rfl rfl rfl (Nat.le_of_ble_eq_true rfl) d_MD_pass_212 ?_
    obtain ⟨h_1, eh_1⟩ : ∃ z, z = g_up hh a ((20, 0), .inr (4, [.int (iZ (0)), .int (iZ (mN M)), .int (iZ (mA M)), .ref p3, .ref p4, .int (iZ (mU M + 1)), .ref p6, .ref p7, .int (iZ (mY M)), .ref p9, .ref p10, .ref p11, .ref p12, .ref p13, .ref p14])) := ⟨_, rfl⟩
    refine g_h (h' := h_1) eh_1.symm ?_
    have f_2 : h_1 a = some ((20, 0), .inr (4, [.int (iZ (0)), .int (iZ (mN M)), .int (iZ (mA M)), .ref p3, .ref p4, .int (iZ (mU M + 1)), .ref p6, .ref p7, .int (iZ (mY M)), .ref p9, .ref p10, .ref p11, .ref p12, .ref p13, .ref p14])) := by rw [eh_1]; exact g_us
    have f_3 : h_1 p3 = some ((21, a), gI D 1024 (aP M)) := by rw [eh_1]; exact g_uk f3 f0 (show (21 : Nat) ≠ 20 by decide)
    have f_4 : h_1 p4 = some ((22, a), gI D 1024 (bb_)) := by rw [eh_1]; exact g_uk f4 f0 (show (22 : Nat) ≠ 20 by decide)
    have f_5 : h_1 p6 = some ((23, a), gI D 17408 (yy_)) := by rw [eh_1]; exact g_uk f6 f0 (show (23 : Nat) ≠ 20 by decide)
    have f_6 : h_1 p7 = some ((24, a), gL D 17408 (gg_)) := by rw [eh_1]; exact g_uk f7 f0 (show (24 : Nat) ≠ 20 by decide)
    have f_7 : h_1 p9 = some ((25, a), gI D 65536 (aC M)) := by rw [eh_1]; exact g_uk f9 f0 (show (25 : Nat) ≠ 20 by decide)
    have f_8 : h_1 p10 = some ((26, a), gI D 64 (aT M)) := by rw [eh_1]; exact g_uk f10 f0 (show (26 : Nat) ≠ 20 by decide)
    have f_9 : h_1 p11 = some ((27, a), gL D 64 (aL M)) := by rw [eh_1]; exact g_uk f11 f0 (show (27 : Nat) ≠ 20 by decide)
    have f_10 : h_1 p12 = some ((28, a), gI D 64 (aM M)) := by rw [eh_1]; exact g_uk f12 f0 (show (28 : Nat) ≠ 20 by decide)
    have f_11 : h_1 p13 = some ((29, a), gI D 1024 (aK M)) := by rw [eh_1]; exact g_uk f13 f0 (show (29 : Nat) ≠ 20 by decide)
    have f_12 : h_1 p14 = some ((30, a), gI D 1024 (aX M)) := by rw [eh_1]; exact g_uk f14 f0 (show (30 : Nat) ≠ 20 by decide)
    have hk_13 := kp_up (hkk) eh_1 f0 (⟨Nat.le_of_ble_eq_true rfl, Nat.le_of_ble_eq_true rfl⟩)
    refine g_1 (fun w => lv_aload_n X.1 X.2.1 d_MD_pass_215 rfl (lv_at hl 4 rfl) w) ?_
    refine g_get X (ci := 4) rfl f_2 6 (by decide) ⟨rfl, rfl⟩ tw_508 (Or.inl rfl) rfl d_MD_pass_216 ?_
    refine g_1 (fun w => lv_iload X.1 X.2.1 d_MD_pass_219 (lv_at hl 0 rfl) w) ?_
    refine g_1 (fun w => lv_iconst (v := iZ 1) X.1 X.2.1 d_MD_pass_221 rfl w) ?_
    refine g_iadd X d_MD_pass_222 ?_
    refine g_1 (fun w => lv_aload_n X.1 X.2.1 d_MD_pass_223 rfl (lv_at hl 4 rfl) w) ?_
    refine g_get X (ci := 4) rfl f_2 6 (by decide) ⟨rfl, rfl⟩ tw_508 (Or.inl rfl) rfl d_MD_pass_224 ?_
    refine g_1 (fun w => lv_iload X.1 X.2.1 d_MD_pass_227 (lv_at hl 0 rfl) w) ?_
    refine g_ild X f_5 (beg bs bi + bP (bs bi)) (by omega) (by omega) (by omega) d_MD_pass_229 ?_
    refine g_1 (fun w => lv_iload_n X.1 X.2.1 d_MD_pass_230 rfl (lv_at hl 2 rfl) w) ?_
    refine g_iadd X d_MD_pass_231 ?_
    refine g_ist X f_5 (Nat.succ_ne_zero _) (beg bs bi + bP (bs bi) + 1) (by omega) (by omega) (by omega) d_MD_pass_232 ?_
    obtain ⟨h_14, eh_14⟩ : ∃ z, z = g_up h_1 p6 ((23, a), gI D 17408 (va_up (yy_) (beg bs bi + bP (bs bi) + 1) (yy_ (beg bs bi + bP (bs bi)) + nn))) := ⟨_, rfl⟩
    refine g_h (h' := h_14) eh_14.symm ?_
    have f_15 : h_14 a = some ((20, 0), .inr (4, [.int (iZ (0)), .int (iZ (mN M)), .int (iZ (mA M)), .ref p3, .ref p4, .int (iZ (mU M + 1)), .ref p6, .ref p7, .int (iZ (mY M)), .ref p9, .ref p10, .ref p11, .ref p12, .ref p13, .ref p14])) := by rw [eh_14]; exact g_uk f_2 f_5 (show (20 : Nat) ≠ 23 by decide)
    have f_16 : h_14 p3 = some ((21, a), gI D 1024 (aP M)) := by rw [eh_14]; exact g_uk f_3 f_5 (show (21 : Nat) ≠ 23 by decide)
    have f_17 : h_14 p4 = some ((22, a), gI D 1024 (bb_)) := by rw [eh_14]; exact g_uk f_4 f_5 (show (22 : Nat) ≠ 23 by decide)
    have f_18 : h_14 p6 = some ((23, a), gI D 17408 (va_up (yy_) (beg bs bi + bP (bs bi) + 1) (yy_ (beg bs bi + bP (bs bi)) + nn))) := by rw [eh_14]; exact g_us
    have f_19 : h_14 p7 = some ((24, a), gL D 17408 (gg_)) := by rw [eh_14]; exact g_uk f_6 f_5 (show (24 : Nat) ≠ 23 by decide)
    have f_20 : h_14 p9 = some ((25, a), gI D 65536 (aC M)) := by rw [eh_14]; exact g_uk f_7 f_5 (show (25 : Nat) ≠ 23 by decide)
    have f_21 : h_14 p10 = some ((26, a), gI D 64 (aT M)) := by rw [eh_14]; exact g_uk f_8 f_5 (show (26 : Nat) ≠ 23 by decide)
    have f_22 : h_14 p11 = some ((27, a), gL D 64 (aL M)) := by rw [eh_14]; exact g_uk f_9 f_5 (show (27 : Nat) ≠ 23 by decide)
    have f_23 : h_14 p12 = some ((28, a), gI D 64 (aM M)) := by rw [eh_14]; exact g_uk f_10 f_5 (show (28 : Nat) ≠ 23 by decide)
    have f_24 : h_14 p13 = some ((29, a), gI D 1024 (aK M)) := by rw [eh_14]; exact g_uk f_11 f_5 (show (29 : Nat) ≠ 23 by decide)
    have f_25 : h_14 p14 = some ((30, a), gI D 1024 (aX M)) := by rw [eh_14]; exact g_uk f_12 f_5 (show (30 : Nat) ≠ 23 by decide)
    have hk_26 := kp_up (hk_13) eh_14 f_5 (⟨Nat.le_of_ble_eq_true rfl, Nat.le_of_ble_eq_true rfl⟩)
    refine g_1 (fun w => lv_aload_n X.1 X.2.1 d_MD_pass_233 rfl (lv_at hl 4 rfl) w) ?_
    refine g_get X (ci := 4) rfl f_15 7 (by decide) ⟨rfl, rfl⟩ tw_509 (Or.inl rfl) rfl d_MD_pass_234 ?_
    refine g_1 (fun w => lv_iload X.1 X.2.1 d_MD_pass_237 (lv_at hl 0 rfl) w) ?_
    refine g_1 (fun w => lv_iconst (v := iZ 1) X.1 X.2.1 d_MD_pass_239 rfl w) ?_
    refine g_iadd X d_MD_pass_240 ?_
    refine g_1 (fun w => lv_aload_n X.1 X.2.1 d_MD_pass_241 rfl (lv_at hl 4 rfl) w) ?_
    refine g_get X (ci := 4) rfl f_15 7 (by decide) ⟨rfl, rfl⟩ tw_509 (Or.inl rfl) rfl d_MD_pass_242 ?_
    refine g_1 (fun w => lv_iload X.1 X.2.1 d_MD_pass_245 (lv_at hl 0 rfl) w) ?_
    refine g_lld X f_19 (beg bs bi + bP (bs bi)) (by omega) (by omega) (by omega) d_MD_pass_247 ?_
    refine g_1 (fun w => lv_lload_n X.1 X.2.1 d_MD_pass_248 rfl (lv_at hl 1 rfl) w) ?_
    refine g_ladd X d_MD_pass_249 ?_
    refine g_lst X f_19 (Nat.succ_ne_zero _) (beg bs bi + bP (bs bi) + 1) (by omega) (by omega) (by omega) d_MD_pass_250 ?_
    obtain ⟨h_27, eh_27⟩ : ∃ z, z = g_up h_14 p7 ((24, a), gL D 17408 (va_up (gg_) (beg bs bi + bP (bs bi) + 1) (gg_ (beg bs bi + bP (bs bi)) + g))) := ⟨_, rfl⟩
    refine g_h (h' := h_27) eh_27.symm ?_
    have f_28 : h_27 a = some ((20, 0), .inr (4, [.int (iZ (0)), .int (iZ (mN M)), .int (iZ (mA M)), .ref p3, .ref p4, .int (iZ (mU M + 1)), .ref p6, .ref p7, .int (iZ (mY M)), .ref p9, .ref p10, .ref p11, .ref p12, .ref p13, .ref p14])) := by rw [eh_27]; exact g_uk f_15 f_19 (show (20 : Nat) ≠ 24 by decide)
    have f_29 : h_27 p3 = some ((21, a), gI D 1024 (aP M)) := by rw [eh_27]; exact g_uk f_16 f_19 (show (21 : Nat) ≠ 24 by decide)
    have f_30 : h_27 p4 = some ((22, a), gI D 1024 (bb_)) := by rw [eh_27]; exact g_uk f_17 f_19 (show (22 : Nat) ≠ 24 by decide)
    have f_31 : h_27 p6 = some ((23, a), gI D 17408 (va_up (yy_) (beg bs bi + bP (bs bi) + 1) (yy_ (beg bs bi + bP (bs bi)) + nn))) := by rw [eh_27]; exact g_uk f_18 f_19 (show (23 : Nat) ≠ 24 by decide)
    have f_32 : h_27 p7 = some ((24, a), gL D 17408 (va_up (gg_) (beg bs bi + bP (bs bi) + 1) (gg_ (beg bs bi + bP (bs bi)) + g))) := by rw [eh_27]; exact g_us
    have f_33 : h_27 p9 = some ((25, a), gI D 65536 (aC M)) := by rw [eh_27]; exact g_uk f_20 f_19 (show (25 : Nat) ≠ 24 by decide)
    have f_34 : h_27 p10 = some ((26, a), gI D 64 (aT M)) := by rw [eh_27]; exact g_uk f_21 f_19 (show (26 : Nat) ≠ 24 by decide)
    have f_35 : h_27 p11 = some ((27, a), gL D 64 (aL M)) := by rw [eh_27]; exact g_uk f_22 f_19 (show (27 : Nat) ≠ 24 by decide)
    have f_36 : h_27 p12 = some ((28, a), gI D 64 (aM M)) := by rw [eh_27]; exact g_uk f_23 f_19 (show (28 : Nat) ≠ 24 by decide)
    have f_37 : h_27 p13 = some ((29, a), gI D 1024 (aK M)) := by rw [eh_27]; exact g_uk f_24 f_19 (show (29 : Nat) ≠ 24 by decide)
    have f_38 : h_27 p14 = some ((30, a), gI D 1024 (aX M)) := by rw [eh_27]; exact g_uk f_25 f_19 (show (30 : Nat) ≠ 24 by decide)
    have hk_39 := kp_up (hk_26) eh_27 f_19 (⟨Nat.le_of_ble_eq_true rfl, Nat.le_of_ble_eq_true rfl⟩)
    refine g_1 (fun w => lv_aload_n X.1 X.2.1 d_MD_pass_251 rfl (lv_at hl 4 rfl) w) ?_
    refine g_get X (ci := 4) rfl f_28 3 (by decide) ⟨rfl, rfl⟩ tw_505 (Or.inl rfl) rfl d_MD_pass_252 ?_
    refine g_1 (fun w => lv_iload_n X.1 X.2.1 d_MD_pass_255 rfl (lv_at hl 3 rfl) w) ?_
    refine g_1 (fun w => lv_dup2_11 X.1 X.2.1 d_MD_pass_256 rfl rfl w) ?_
    refine g_ild X f_29 (bi) (rfl) (by omega) (by omega) d_MD_pass_257 ?_
    refine g_1 (fun w => lv_iconst (v := iZ 1) X.1 X.2.1 d_MD_pass_258 rfl w) ?_
    refine g_iadd X d_MD_pass_259 ?_
    refine g_ist X f_29 (Nat.succ_ne_zero _) (bi) (rfl) (by omega) (by omega) d_MD_pass_260 ?_
    obtain ⟨h_40, eh_40⟩ : ∃ z, z = g_up h_27 p3 ((21, a), gI D 1024 (va_up (aP M) (bi) (aP M bi + 1))) := ⟨_, rfl⟩
    refine g_h (h' := h_40) eh_40.symm ?_
    have f_41 : h_40 a = some ((20, 0), .inr (4, [.int (iZ (0)), .int (iZ (mN M)), .int (iZ (mA M)), .ref p3, .ref p4, .int (iZ (mU M + 1)), .ref p6, .ref p7, .int (iZ (mY M)), .ref p9, .ref p10, .ref p11, .ref p12, .ref p13, .ref p14])) := by rw [eh_40]; exact g_uk f_28 f_29 (show (20 : Nat) ≠ 21 by decide)
    have f_42 : h_40 p3 = some ((21, a), gI D 1024 (va_up (aP M) (bi) (aP M bi + 1))) := by rw [eh_40]; exact g_us
    have f_43 : h_40 p4 = some ((22, a), gI D 1024 (bb_)) := by rw [eh_40]; exact g_uk f_30 f_29 (show (22 : Nat) ≠ 21 by decide)
    have f_44 : h_40 p6 = some ((23, a), gI D 17408 (va_up (yy_) (beg bs bi + bP (bs bi) + 1) (yy_ (beg bs bi + bP (bs bi)) + nn))) := by rw [eh_40]; exact g_uk f_31 f_29 (show (23 : Nat) ≠ 21 by decide)
    have f_45 : h_40 p7 = some ((24, a), gL D 17408 (va_up (gg_) (beg bs bi + bP (bs bi) + 1) (gg_ (beg bs bi + bP (bs bi)) + g))) := by rw [eh_40]; exact g_uk f_32 f_29 (show (24 : Nat) ≠ 21 by decide)
    have f_46 : h_40 p9 = some ((25, a), gI D 65536 (aC M)) := by rw [eh_40]; exact g_uk f_33 f_29 (show (25 : Nat) ≠ 21 by decide)
    have f_47 : h_40 p10 = some ((26, a), gI D 64 (aT M)) := by rw [eh_40]; exact g_uk f_34 f_29 (show (26 : Nat) ≠ 21 by decide)
    have f_48 : h_40 p11 = some ((27, a), gL D 64 (aL M)) := by rw [eh_40]; exact g_uk f_35 f_29 (show (27 : Nat) ≠ 21 by decide)
    have f_49 : h_40 p12 = some ((28, a), gI D 64 (aM M)) := by rw [eh_40]; exact g_uk f_36 f_29 (show (28 : Nat) ≠ 21 by decide)
    have f_50 : h_40 p13 = some ((29, a), gI D 1024 (aK M)) := by rw [eh_40]; exact g_uk f_37 f_29 (show (29 : Nat) ≠ 21 by decide)
    have f_51 : h_40 p14 = some ((30, a), gI D 1024 (aX M)) := by rw [eh_40]; exact g_uk f_38 f_29 (show (30 : Nat) ≠ 21 by decide)
    have hk_52 := kp_up (hk_39) eh_40 f_29 (⟨Nat.le_of_ble_eq_true rfl, Nat.le_of_ble_eq_true rfl⟩)
    refine g_1 (fun w => lv_aload_n X.1 X.2.1 d_MD_pass_261 rfl (lv_at hl 4 rfl) w) ?_
    refine g_1 (fun w => lv_dup X.1 X.2.1 d_MD_pass_262 rfl w) ?_
    refine g_get X (ci := 4) rfl f_41 2 (by decide) ⟨rfl, rfl⟩ tw_504 (Or.inl rfl) rfl d_MD_pass_263 ?_
    refine g_1 (fun w => lv_iconst (v := iZ 1) X.1 X.2.1 d_MD_pass_266 rfl w) ?_
    refine g_iadd X d_MD_pass_267 ?_
    refine g_put X (ci := 4) rfl f_41 (Nat.succ_ne_zero _) 2 (by decide) ⟨rfl, rfl⟩ tw_504 (Or.inl rfl) rfl rfl rfl (Nat.le_of_ble_eq_true rfl) d_MD_pass_268 ?_
    obtain ⟨h_53, eh_53⟩ : ∃ z, z = g_up h_40 a ((20, 0), .inr (4, [.int (iZ (0)), .int (iZ (mN M)), .int (iZ (mA M + 1)), .ref p3, .ref p4, .int (iZ (mU M + 1)), .ref p6, .ref p7, .int (iZ (mY M)), .ref p9, .ref p10, .ref p11, .ref p12, .ref p13, .ref p14])) := ⟨_, rfl⟩
    refine g_h (h' := h_53) eh_53.symm ?_
    have f_54 : h_53 a = some ((20, 0), .inr (4, [.int (iZ (0)), .int (iZ (mN M)), .int (iZ (mA M + 1)), .ref p3, .ref p4, .int (iZ (mU M + 1)), .ref p6, .ref p7, .int (iZ (mY M)), .ref p9, .ref p10, .ref p11, .ref p12, .ref p13, .ref p14])) := by rw [eh_53]; exact g_us
    have f_55 : h_53 p3 = some ((21, a), gI D 1024 (va_up (aP M) (bi) (aP M bi + 1))) := by rw [eh_53]; exact g_uk f_42 f_41 (show (21 : Nat) ≠ 20 by decide)
    have f_56 : h_53 p4 = some ((22, a), gI D 1024 (bb_)) := by rw [eh_53]; exact g_uk f_43 f_41 (show (22 : Nat) ≠ 20 by decide)
    have f_57 : h_53 p6 = some ((23, a), gI D 17408 (va_up (yy_) (beg bs bi + bP (bs bi) + 1) (yy_ (beg bs bi + bP (bs bi)) + nn))) := by rw [eh_53]; exact g_uk f_44 f_41 (show (23 : Nat) ≠ 20 by decide)
    have f_58 : h_53 p7 = some ((24, a), gL D 17408 (va_up (gg_) (beg bs bi + bP (bs bi) + 1) (gg_ (beg bs bi + bP (bs bi)) + g))) := by rw [eh_53]; exact g_uk f_45 f_41 (show (24 : Nat) ≠ 20 by decide)
    have f_59 : h_53 p9 = some ((25, a), gI D 65536 (aC M)) := by rw [eh_53]; exact g_uk f_46 f_41 (show (25 : Nat) ≠ 20 by decide)
    have f_60 : h_53 p10 = some ((26, a), gI D 64 (aT M)) := by rw [eh_53]; exact g_uk f_47 f_41 (show (26 : Nat) ≠ 20 by decide)
    have f_61 : h_53 p11 = some ((27, a), gL D 64 (aL M)) := by rw [eh_53]; exact g_uk f_48 f_41 (show (27 : Nat) ≠ 20 by decide)
    have f_62 : h_53 p12 = some ((28, a), gI D 64 (aM M)) := by rw [eh_53]; exact g_uk f_49 f_41 (show (28 : Nat) ≠ 20 by decide)
    have f_63 : h_53 p13 = some ((29, a), gI D 1024 (aK M)) := by rw [eh_53]; exact g_uk f_50 f_41 (show (29 : Nat) ≠ 20 by decide)
    have f_64 : h_53 p14 = some ((30, a), gI D 1024 (aX M)) := by rw [eh_53]; exact g_uk f_51 f_41 (show (30 : Nat) ≠ 20 by decide)
    have hk_65 := kp_up (hk_52) eh_53 f_41 (⟨Nat.le_of_ble_eq_true rfl, Nat.le_of_ble_eq_true rfl⟩)
    refine g_1 (fun w => lv_aload_n X.1 X.2.1 d_MD_pass_271 rfl (lv_at hl 4 rfl) w) ?_
    refine g_1 (fun w => lv_iconst (v := iZ 0) X.1 X.2.1 d_MD_pass_272 rfl w) ?_
    refine g_put X (ci := 4) rfl f_54 (Nat.succ_ne_zero _) 8 (by decide) ⟨rfl, rfl⟩ tw_510 (Or.inl rfl) rfl rfl rfl (Nat.le_of_ble_eq_true rfl) d_MD_pass_273 ?_
    obtain ⟨h_66, eh_66⟩ : ∃ z, z = g_up h_53 a ((20, 0), .inr (4, [.int (iZ (0)), .int (iZ (mN M)), .int (iZ (mA M + 1)), .ref p3, .ref p4, .int (iZ (mU M + 1)), .ref p6, .ref p7, .int (iZ (0)), .ref p9, .ref p10, .ref p11, .ref p12, .ref p13, .ref p14])) := ⟨_, rfl⟩
    refine g_h (h' := h_66) eh_66.symm ?_
    have f_67 : h_66 a = some ((20, 0), .inr (4, [.int (iZ (0)), .int (iZ (mN M)), .int (iZ (mA M + 1)), .ref p3, .ref p4, .int (iZ (mU M + 1)), .ref p6, .ref p7, .int (iZ (0)), .ref p9, .ref p10, .ref p11, .ref p12, .ref p13, .ref p14])) := by rw [eh_66]; exact g_us
    have f_68 : h_66 p3 = some ((21, a), gI D 1024 (va_up (aP M) (bi) (aP M bi + 1))) := by rw [eh_66]; exact g_uk f_55 f_54 (show (21 : Nat) ≠ 20 by decide)
    have f_69 : h_66 p4 = some ((22, a), gI D 1024 (bb_)) := by rw [eh_66]; exact g_uk f_56 f_54 (show (22 : Nat) ≠ 20 by decide)
    have f_70 : h_66 p6 = some ((23, a), gI D 17408 (va_up (yy_) (beg bs bi + bP (bs bi) + 1) (yy_ (beg bs bi + bP (bs bi)) + nn))) := by rw [eh_66]; exact g_uk f_57 f_54 (show (23 : Nat) ≠ 20 by decide)
    have f_71 : h_66 p7 = some ((24, a), gL D 17408 (va_up (gg_) (beg bs bi + bP (bs bi) + 1) (gg_ (beg bs bi + bP (bs bi)) + g))) := by rw [eh_66]; exact g_uk f_58 f_54 (show (24 : Nat) ≠ 20 by decide)
    have f_72 : h_66 p9 = some ((25, a), gI D 65536 (aC M)) := by rw [eh_66]; exact g_uk f_59 f_54 (show (25 : Nat) ≠ 20 by decide)
    have f_73 : h_66 p10 = some ((26, a), gI D 64 (aT M)) := by rw [eh_66]; exact g_uk f_60 f_54 (show (26 : Nat) ≠ 20 by decide)
    have f_74 : h_66 p11 = some ((27, a), gL D 64 (aL M)) := by rw [eh_66]; exact g_uk f_61 f_54 (show (27 : Nat) ≠ 20 by decide)
    have f_75 : h_66 p12 = some ((28, a), gI D 64 (aM M)) := by rw [eh_66]; exact g_uk f_62 f_54 (show (28 : Nat) ≠ 20 by decide)
    have f_76 : h_66 p13 = some ((29, a), gI D 1024 (aK M)) := by rw [eh_66]; exact g_uk f_63 f_54 (show (29 : Nat) ≠ 20 by decide)
    have f_77 : h_66 p14 = some ((30, a), gI D 1024 (aX M)) := by rw [eh_66]; exact g_uk f_64 f_54 (show (30 : Nat) ≠ 20 by decide)
    have hk_78 := kp_up (hk_65) eh_66 f_54 (⟨Nat.le_of_ble_eq_true rfl, Nat.le_of_ble_eq_true rfl⟩)
    refine g_1 (fun w => lv_aload_n X.1 X.2.1 d_MD_pass_276 rfl (lv_at hl 4 rfl) w) ?_
    refine g_get X (ci := 4) rfl f_67 3 (by decide) ⟨rfl, rfl⟩ tw_505 (Or.inl rfl) rfl d_MD_pass_277 ?_
    refine g_1 (fun w => lv_iload_n X.1 X.2.1 d_MD_pass_280 rfl (lv_at hl 3 rfl) w) ?_
    refine g_ild X f_68 (bi) (rfl) (by omega) (by omega) d_MD_pass_281 ?_
    exact g_iret X (⟨0, bP (bs bi) + 1, g_ei (by rw [va_up_self]; omega), hk_78, Or.inr ⟨by omega, bi, hib, hbi, Or.inr ⟨hfl2, rfl, rfl, (0, mN M, mA M + 1, mU M + 1, 0, va_up (aP M) bi (aP M bi + 1), bb_, va_up yy_ (beg bs bi + bP (bs bi) + 1) (yy_ (beg bs bi + bP (bs bi)) + nn), va_up gg_ (beg bs bi + bP (bs bi) + 1) (gg_ (beg bs bi + bP (bs bi)) + g), aC M, aT M, aL M, aM M, aK M, aX M), ⟨p3, p4, p6, p7, p9, p10, p11, p12, p13, p14, f_67, f_68, f_69, f_70, f_71, f_72, f_73, f_74, f_75, f_76, f_77⟩, rfl, rfl, rfl, mV_pass hv hbi hroom hB1 hB2 hY1 hY2⟩⟩⟩) (by decide) (by decide) d_MD_pass_282
  have loopB : ∀ (bi : Nat) (hbi : bi < n) (hib : (bi : Int) = i) (hnn : 0 ≤ nn) (hg3 : -274877906944 ≤ g) (hg4 : g ≤ 274877906944) (hroom : beg bs n < n + 16384) (hfl2 : ¬ (16384 ≤ mA M ∨ ¬ (bP (bs bi) < 120 ∧ nn + bB (bs bi) (bP (bs bi)) ≤ 65535))) (d k : Nat) (hh : gH) (bb_ yy_ gg_ : Nat → Int) (ls : Array Slot), k + d = n → bi < k → isMD D hh a (0, mN M, mA M, mU M, mY M, aP M, bb_, yy_, gg_, aC M, aT M, aL M, aM M, aK M, aX M) → (∀ j, j ≤ bi → bb_ j = aB M j) → (∀ j, bi < j → j < k → bb_ j = aB M j + 1) → (∀ j, k ≤ j → j < n → bb_ j = aB M j) → (∀ j, j ≤ beg bs bi + bP (bs bi) + 1 → yy_ j = aY M j ∧ gg_ j = aG M j) → (∀ j, beg bs bi + bP (bs bi) + 1 < j → j ≤ beg bs n → yy_ j = aY M (j - 1) ∧ gg_ j = aG M (j - 1)) → kp P_MD h hh → lv_has ls 8 [(7, .int (iZ (k))), (6, .int (iZ (aB M bi + aP M bi))), (3, .long (lZ (g))), (2, .int (iZ (nn))), (1, .int (iZ (bi))), (0, .ref a)] → G D s0 p l e ({ frames := 1, cells := 0, slots := 0, locals := 22 } : Room) s m ([.ref a, .int (iZ (i)), .int (iZ (nn)), .long (lZ (g))] : List Value).toArray below meth c hh 0 0 (MQ below (gQ D s0 (fun v h' => ∃ t r : Int, some (.int (iZ r)) = v ∧ kp P_MD h h' ∧ (((¬ (0 ≤ i ∧ i < n) ∨ nn < 0 ∨ g < -274877906944 ∨ 274877906944 < g) ∧ t = 1 ∧ isMD D h' a (1, M.2)) ∨ (¬ (¬ (0 ≤ i ∧ i < n) ∨ nn < 0 ∨ g < -274877906944 ∨ 274877906944 < g) ∧ ∃ b : Nat, (b : Int) = i ∧ b < n ∧ (((16384 ≤ mA M ∨ ¬ (bP (bs b) < 120 ∧ nn + bB (bs b) (bP (bs b)) ≤ 65535)) ∧ t = 2 ∧ isMD D h' a (2, M.2)) ∨ (¬ (16384 ≤ mA M ∨ ¬ (bP (bs b) < 120 ∧ nn + bB (bs b) (bP (bs b)) ≤ 65535)) ∧ t = 0 ∧ r = bP (bs b) + 1 ∧ ∃ M', isMD D h' a M' ∧ mT M' = 0 ∧ mY M' = 0 ∧ mA M' = mA M + 1 ∧ mV M' n (va_up bs b (grown (bs b) nn g)))))))) ([.ref a, .int (iZ (i)), .int (iZ (nn)), .long (lZ (g))] : List Value).toArray s 0 0 (fun q => s0.heap.size ≤ q)) (F0 m 179 ls []) := by
    intro bi hbi hib hnn hg3 hg4 hroom hfl2
    obtain ⟨u1, u2, u3⟩ := v5 bi hbi
    obtain ⟨⟨⟨k1, k2, k3, k4, k5, k6, k7, k8⟩, w2, w3, w4⟩, w5, w6⟩ := id (hw bi hbi)
    have hbl := beg_lt bs hbi
    have ub := u3 (bP (bs bi)) (Nat.le_refl _)
    intro d
    induction d with
    | zero =>
      intro k hh bb_ yy_ gg_ ls hi_ hk_ hm2 hB1 hB2 hB3 hY1 hY2 hkk hl
      obtain ⟨p3, p4, p6, p7, p9, p10, p11, p12, p13, p14, f0, f3, f4, f6, f7, f9, f10, f11, f12, f13, f14⟩ := id hm2
      have f0 : hh a = some ((20, 0), .inr (4, [.int (iZ (0)), .int (iZ (mN M)), .int (iZ (mA M)), .ref p3, .ref p4, .int (iZ (mU M)), .ref p6, .ref p7, .int (iZ (mY M)), .ref p9, .ref p10, .ref p11, .ref p12, .ref p13, .ref p14])) := f0
      have f3 : hh p3 = some ((21, a), gI D 1024 (aP M)) := f3
      have f4 : hh p4 = some ((22, a), gI D 1024 (bb_)) := f4
      have f6 : hh p6 = some ((23, a), gI D 17408 (yy_)) := f6
      have f7 : hh p7 = some ((24, a), gL D 17408 (gg_)) := f7
      have f9 : hh p9 = some ((25, a), gI D 65536 (aC M)) := f9
      have f10 : hh p10 = some ((26, a), gI D 64 (aT M)) := f10
      have f11 : hh p11 = some ((27, a), gL D 64 (aL M)) := f11
      have f12 : hh p12 = some ((28, a), gI D 64 (aM M)) := f12
      have f13 : hh p13 = some ((29, a), gI D 1024 (aK M)) := f13
      have f14 : hh p14 = some ((30, a), gI D 1024 (aX M)) := f14
      refine g_1 (fun w => lv_iload X.1 X.2.1 d_MD_pass_179 (lv_at hl 0 rfl) w) ?_
      refine g_1 (fun w => lv_aload_n X.1 X.2.1 d_MD_pass_181 rfl (lv_at hl 5 rfl) w) ?_
      refine g_get X (ci := 4) rfl f0 1 (by decide) ⟨rfl, rfl⟩ tw_503 (Or.inl rfl) rfl d_MD_pass_182 ?_
      refine g_icmp_ge (tgt := 205) X (by first | exact ⟨by omega, by omega⟩ | (split <;> exact ⟨by omega, by omega⟩) | exact cmpZ_ok _ _ | exact mul_ok (by omega) (by omega) (by omega) (by omega)) (by first | exact ⟨by omega, by omega⟩ | (split <;> exact ⟨by omega, by omega⟩) | exact cmpZ_ok _ _ | exact mul_ok (by omega) (by omega) (by omega) (by omega)) d_MD_pass_185 (by decide) (fun c185 => ?_) (fun c185 => ?_)
      · exact tail bi hbi hib hnn hg3 hg4 hroom hfl2 hh bb_ yy_ gg_ ls hm2 hB1 (fun j h1 h2 => hB2 j h1 (by omega)) hY1 hY2 hkk (lv_sub hl [1, 2, 3, 4, 5] rfl)
      · exfalso
        omega
    | succ d ih =>
      intro k hh bb_ yy_ gg_ ls hi_ hk_ hm2 hB1 hB2 hB3 hY1 hY2 hkk hl
      obtain ⟨p3, p4, p6, p7, p9, p10, p11, p12, p13, p14, f0, f3, f4, f6, f7, f9, f10, f11, f12, f13, f14⟩ := id hm2
      have f0 : hh a = some ((20, 0), .inr (4, [.int (iZ (0)), .int (iZ (mN M)), .int (iZ (mA M)), .ref p3, .ref p4, .int (iZ (mU M)), .ref p6, .ref p7, .int (iZ (mY M)), .ref p9, .ref p10, .ref p11, .ref p12, .ref p13, .ref p14])) := f0
      have f3 : hh p3 = some ((21, a), gI D 1024 (aP M)) := f3
      have f4 : hh p4 = some ((22, a), gI D 1024 (bb_)) := f4
      have f6 : hh p6 = some ((23, a), gI D 17408 (yy_)) := f6
      have f7 : hh p7 = some ((24, a), gL D 17408 (gg_)) := f7
      have f9 : hh p9 = some ((25, a), gI D 65536 (aC M)) := f9
      have f10 : hh p10 = some ((26, a), gI D 64 (aT M)) := f10
      have f11 : hh p11 = some ((27, a), gL D 64 (aL M)) := f11
      have f12 : hh p12 = some ((28, a), gI D 64 (aM M)) := f12
      have f13 : hh p13 = some ((29, a), gI D 1024 (aK M)) := f13
      have f14 : hh p14 = some ((30, a), gI D 1024 (aX M)) := f14
      refine g_1 (fun w => lv_iload X.1 X.2.1 d_MD_pass_179 (lv_at hl 0 rfl) w) ?_
      refine g_1 (fun w => lv_aload_n X.1 X.2.1 d_MD_pass_181 rfl (lv_at hl 5 rfl) w) ?_
      refine g_get X (ci := 4) rfl f0 1 (by decide) ⟨rfl, rfl⟩ tw_503 (Or.inl rfl) rfl d_MD_pass_182 ?_
      refine g_icmp_ge (tgt := 205) X (by first | exact ⟨by omega, by omega⟩ | (split <;> exact ⟨by omega, by omega⟩) | exact cmpZ_ok _ _ | exact mul_ok (by omega) (by omega) (by omega) (by omega)) (by first | exact ⟨by omega, by omega⟩ | (split <;> exact ⟨by omega, by omega⟩) | exact cmpZ_ok _ _ | exact mul_ok (by omega) (by omega) (by omega) (by omega)) d_MD_pass_185 (by decide) (fun c185 => ?_) (fun c185 => ?_)
      · exfalso
        omega
      · refine g_1 (fun w => lv_aload_n X.1 X.2.1 d_MD_pass_188 rfl (lv_at hl 5 rfl) w) ?_
        refine g_get X (ci := 4) rfl f0 4 (by decide) ⟨rfl, rfl⟩ tw_506 (Or.inl rfl) rfl d_MD_pass_189 ?_
        refine g_1 (fun w => lv_iload X.1 X.2.1 d_MD_pass_192 (lv_at hl 0 rfl) w) ?_
        refine g_1 (fun w => lv_dup2_11 X.1 X.2.1 d_MD_pass_194 rfl rfl w) ?_
        refine g_ild X f4 (k) (rfl) (by omega) (by omega) d_MD_pass_195 ?_
        refine g_1 (fun w => lv_iconst (v := iZ 1) X.1 X.2.1 d_MD_pass_196 rfl w) ?_
        refine g_iadd X d_MD_pass_197 ?_
        refine g_ist X f4 (Nat.succ_ne_zero _) (k) (rfl) (by omega) (by omega) d_MD_pass_198 ?_
        obtain ⟨h_1, eh_1⟩ : ∃ z, z = g_up hh p4 ((22, a), gI D 1024 (va_up (bb_) (k) (bb_ k + 1))) := ⟨_, rfl⟩
        refine g_h (h' := h_1) eh_1.symm ?_
        have f_2 : h_1 a = some ((20, 0), .inr (4, [.int (iZ (0)), .int (iZ (mN M)), .int (iZ (mA M)), .ref p3, .ref p4, .int (iZ (mU M)), .ref p6, .ref p7, .int (iZ (mY M)), .ref p9, .ref p10, .ref p11, .ref p12, .ref p13, .ref p14])) := by rw [eh_1]; exact g_uk f0 f4 (show (20 : Nat) ≠ 22 by decide)
        have f_3 : h_1 p3 = some ((21, a), gI D 1024 (aP M)) := by rw [eh_1]; exact g_uk f3 f4 (show (21 : Nat) ≠ 22 by decide)
        have f_4 : h_1 p4 = some ((22, a), gI D 1024 (va_up (bb_) (k) (bb_ k + 1))) := by rw [eh_1]; exact g_us
        have f_5 : h_1 p6 = some ((23, a), gI D 17408 (yy_)) := by rw [eh_1]; exact g_uk f6 f4 (show (23 : Nat) ≠ 22 by decide)
        have f_6 : h_1 p7 = some ((24, a), gL D 17408 (gg_)) := by rw [eh_1]; exact g_uk f7 f4 (show (24 : Nat) ≠ 22 by decide)
        have f_7 : h_1 p9 = some ((25, a), gI D 65536 (aC M)) := by rw [eh_1]; exact g_uk f9 f4 (show (25 : Nat) ≠ 22 by decide)
        have f_8 : h_1 p10 = some ((26, a), gI D 64 (aT M)) := by rw [eh_1]; exact g_uk f10 f4 (show (26 : Nat) ≠ 22 by decide)
        have f_9 : h_1 p11 = some ((27, a), gL D 64 (aL M)) := by rw [eh_1]; exact g_uk f11 f4 (show (27 : Nat) ≠ 22 by decide)
        have f_10 : h_1 p12 = some ((28, a), gI D 64 (aM M)) := by rw [eh_1]; exact g_uk f12 f4 (show (28 : Nat) ≠ 22 by decide)
        have f_11 : h_1 p13 = some ((29, a), gI D 1024 (aK M)) := by rw [eh_1]; exact g_uk f13 f4 (show (29 : Nat) ≠ 22 by decide)
        have f_12 : h_1 p14 = some ((30, a), gI D 1024 (aX M)) := by rw [eh_1]; exact g_uk f14 f4 (show (30 : Nat) ≠ 22 by decide)
        have hk_13 := kp_up (hkk) eh_1 f4 (⟨Nat.le_of_ble_eq_true rfl, Nat.le_of_ble_eq_true rfl⟩)
        refine g_s (fun kk => lv_iinc (v := iZ (k + 1)) (lv' := [(7, .int (iZ (k + 1))), (6, .int (iZ (aB M bi + aP M bi))), (3, .long (lZ (g))), (2, .int (iZ (nn))), (1, .int (iZ (bi))), (0, .ref a)]) X.1 X.2.1 d_MD_pass_199 hl (k := 0) rfl (iZ_add _ _) (by decide) rfl kk) (fun ls hl => ?_)
        refine g_goto (tgt := 179) X d_MD_pass_202 (by decide) ?_
        exact ih (k + 1) h_1 (va_up bb_ k (bb_ k + 1)) yy_ gg_ ls (by omega) (by omega) ⟨p3, p4, p6, p7, p9, p10, p11, p12, p13, p14, f_2, f_3, f_4, f_5, f_6, f_7, f_8, f_9, f_10, f_11, f_12⟩ (fun j hj => by rw [va_up_ne _ _ (by omega)]; exact hB1 j hj) (fun j h1 h2 => by
          by_cases ez : j = k
          · rw [ez, va_up_self, hB3 k (Nat.le_refl _) (by omega)]
          · rw [va_up_ne _ _ ez]; exact hB2 j h1 (by omega)) (fun j h1 h2 => by rw [va_up_ne _ _ (by omega)]; exact hB3 j (by omega) h2) hY1 hY2 hk_13 (lv_sub hl [0, 1, 2, 3, 4, 5] rfl)
  have loopA : ∀ (bi : Nat) (hbi : bi < n) (hib : (bi : Int) = i) (hnn : 0 ≤ nn) (hg3 : -274877906944 ≤ g) (hg4 : g ≤ 274877906944) (hroom : beg bs n < n + 16384) (hfl2 : ¬ (16384 ≤ mA M ∨ ¬ (bP (bs bi) < 120 ∧ nn + bB (bs bi) (bP (bs bi)) ≤ 65535))) (d k : Nat) (hh : gH) (yy_ gg_ : Nat → Int) (ls : Array Slot), k = beg bs bi + bP (bs bi) + 1 + d → k ≤ beg bs n → isMD D hh a (0, mN M, mA M, mU M, mY M, aP M, aB M, yy_, gg_, aC M, aT M, aL M, aM M, aK M, aX M) → (∀ j, k < j → j ≤ beg bs n → yy_ j = aY M (j - 1) ∧ gg_ j = aG M (j - 1)) → (∀ j, j ≤ k → yy_ j = aY M j ∧ gg_ j = aG M j) → kp P_MD h hh → lv_has ls 8 [(7, .int (iZ (k))), (6, .int (iZ (aB M bi + aP M bi))), (3, .long (lZ (g))), (2, .int (iZ (nn))), (1, .int (iZ (bi))), (0, .ref a)] → G D s0 p l e ({ frames := 1, cells := 0, slots := 0, locals := 22 } : Room) s m ([.ref a, .int (iZ (i)), .int (iZ (nn)), .long (lZ (g))] : List Value).toArray below meth c hh 0 0 (MQ below (gQ D s0 (fun v h' => ∃ t r : Int, some (.int (iZ r)) = v ∧ kp P_MD h h' ∧ (((¬ (0 ≤ i ∧ i < n) ∨ nn < 0 ∨ g < -274877906944 ∨ 274877906944 < g) ∧ t = 1 ∧ isMD D h' a (1, M.2)) ∨ (¬ (¬ (0 ≤ i ∧ i < n) ∨ nn < 0 ∨ g < -274877906944 ∨ 274877906944 < g) ∧ ∃ b : Nat, (b : Int) = i ∧ b < n ∧ (((16384 ≤ mA M ∨ ¬ (bP (bs b) < 120 ∧ nn + bB (bs b) (bP (bs b)) ≤ 65535)) ∧ t = 2 ∧ isMD D h' a (2, M.2)) ∨ (¬ (16384 ≤ mA M ∨ ¬ (bP (bs b) < 120 ∧ nn + bB (bs b) (bP (bs b)) ≤ 65535)) ∧ t = 0 ∧ r = bP (bs b) + 1 ∧ ∃ M', isMD D h' a M' ∧ mT M' = 0 ∧ mY M' = 0 ∧ mA M' = mA M + 1 ∧ mV M' n (va_up bs b (grown (bs b) nn g)))))))) ([.ref a, .int (iZ (i)), .int (iZ (nn)), .long (lZ (g))] : List Value).toArray s 0 0 (fun q => s0.heap.size ≤ q)) (F0 m 127 ls []) := by
    intro bi hbi hib hnn hg3 hg4 hroom hfl2
    obtain ⟨u1, u2, u3⟩ := v5 bi hbi
    obtain ⟨⟨⟨k1, k2, k3, k4, k5, k6, k7, k8⟩, w2, w3, w4⟩, w5, w6⟩ := id (hw bi hbi)
    have hbl := beg_lt bs hbi
    have ub := u3 (bP (bs bi)) (Nat.le_refl _)
    intro d
    induction d with
    | zero =>
      intro k hh yy_ gg_ ls hi_ hk_ hm2 hY2 hY1 hkk hl
      obtain ⟨p3, p4, p6, p7, p9, p10, p11, p12, p13, p14, f0, f3, f4, f6, f7, f9, f10, f11, f12, f13, f14⟩ := id hm2
      have f0 : hh a = some ((20, 0), .inr (4, [.int (iZ (0)), .int (iZ (mN M)), .int (iZ (mA M)), .ref p3, .ref p4, .int (iZ (mU M)), .ref p6, .ref p7, .int (iZ (mY M)), .ref p9, .ref p10, .ref p11, .ref p12, .ref p13, .ref p14])) := f0
      have f3 : hh p3 = some ((21, a), gI D 1024 (aP M)) := f3
      have f4 : hh p4 = some ((22, a), gI D 1024 (aB M)) := f4
      have f6 : hh p6 = some ((23, a), gI D 17408 (yy_)) := f6
      have f7 : hh p7 = some ((24, a), gL D 17408 (gg_)) := f7
      have f9 : hh p9 = some ((25, a), gI D 65536 (aC M)) := f9
      have f10 : hh p10 = some ((26, a), gI D 64 (aT M)) := f10
      have f11 : hh p11 = some ((27, a), gL D 64 (aL M)) := f11
      have f12 : hh p12 = some ((28, a), gI D 64 (aM M)) := f12
      have f13 : hh p13 = some ((29, a), gI D 1024 (aK M)) := f13
      have f14 : hh p14 = some ((30, a), gI D 1024 (aX M)) := f14
      refine g_1 (fun w => lv_iload X.1 X.2.1 d_MD_pass_127 (lv_at hl 0 rfl) w) ?_
      refine g_1 (fun w => lv_iload X.1 X.2.1 d_MD_pass_129 (lv_at hl 1 rfl) w) ?_
      refine g_1 (fun w => lv_iconst (v := iZ 1) X.1 X.2.1 d_MD_pass_131 rfl w) ?_
      refine g_iadd X d_MD_pass_132 ?_
      refine g_icmp_le (tgt := 174) X (by first | exact ⟨by omega, by omega⟩ | (split <;> exact ⟨by omega, by omega⟩) | exact cmpZ_ok _ _ | exact mul_ok (by omega) (by omega) (by omega) (by omega)) (by first | exact ⟨by omega, by omega⟩ | (split <;> exact ⟨by omega, by omega⟩) | exact cmpZ_ok _ _ | exact mul_ok (by omega) (by omega) (by omega) (by omega)) d_MD_pass_133 (by decide) (fun c133 => ?_) (fun c133 => ?_)
      · refine g_1 (fun w => lv_iload_n X.1 X.2.1 d_MD_pass_174 rfl (lv_at hl 4 rfl) w) ?_
        refine g_1 (fun w => lv_iconst (v := iZ 1) X.1 X.2.1 d_MD_pass_175 rfl w) ?_
        refine g_iadd X d_MD_pass_176 ?_
        refine g_s (fun kk => lv_istore (lv' := [(7, .int (iZ (bi + 1))), (6, .int (iZ (aB M bi + aP M bi))), (3, .long (lZ (g))), (2, .int (iZ (nn))), (1, .int (iZ (bi))), (0, .ref a)]) X.1 X.2.1 d_MD_pass_177 hl (by decide) rfl kk) (fun ls hl => ?_)
        exact loopB bi hbi hib hnn hg3 hg4 hroom hfl2 (n - bi - 1) (bi + 1) hh (aB M) yy_ gg_ ls (by omega) (by omega) ⟨p3, p4, p6, p7, p9, p10, p11, p12, p13, p14, f0, f3, f4, f6, f7, f9, f10, f11, f12, f13, f14⟩ (fun j _ => rfl) (fun j h1 h2 => absurd h1 (by omega)) (fun j _ _ => rfl) (fun j hj => hY1 j (by omega)) (fun j h1 h2 => hY2 j (by omega) h2) hkk (lv_sub hl [0, 1, 2, 3, 4, 5] rfl)
      · exfalso
        omega
    | succ d ih =>
      intro k hh yy_ gg_ ls hi_ hk_ hm2 hY2 hY1 hkk hl
      obtain ⟨p3, p4, p6, p7, p9, p10, p11, p12, p13, p14, f0, f3, f4, f6, f7, f9, f10, f11, f12, f13, f14⟩ := id hm2
      have f0 : hh a = some ((20, 0), .inr (4, [.int (iZ (0)), .int (iZ (mN M)), .int (iZ (mA M)), .ref p3, .ref p4, .int (iZ (mU M)), .ref p6, .ref p7, .int (iZ (mY M)), .ref p9, .ref p10, .ref p11, .ref p12, .ref p13, .ref p14])) := f0
      have f3 : hh p3 = some ((21, a), gI D 1024 (aP M)) := f3
      have f4 : hh p4 = some ((22, a), gI D 1024 (aB M)) := f4
      have f6 : hh p6 = some ((23, a), gI D 17408 (yy_)) := f6
      have f7 : hh p7 = some ((24, a), gL D 17408 (gg_)) := f7
      have f9 : hh p9 = some ((25, a), gI D 65536 (aC M)) := f9
      have f10 : hh p10 = some ((26, a), gI D 64 (aT M)) := f10
      have f11 : hh p11 = some ((27, a), gL D 64 (aL M)) := f11
      have f12 : hh p12 = some ((28, a), gI D 64 (aM M)) := f12
      have f13 : hh p13 = some ((29, a), gI D 1024 (aK M)) := f13
      have f14 : hh p14 = some ((30, a), gI D 1024 (aX M)) := f14
      refine g_1 (fun w => lv_iload X.1 X.2.1 d_MD_pass_127 (lv_at hl 0 rfl) w) ?_
      refine g_1 (fun w => lv_iload X.1 X.2.1 d_MD_pass_129 (lv_at hl 1 rfl) w) ?_
      refine g_1 (fun w => lv_iconst (v := iZ 1) X.1 X.2.1 d_MD_pass_131 rfl w) ?_
      refine g_iadd X d_MD_pass_132 ?_
      refine g_icmp_le (tgt := 174) X (by first | exact ⟨by omega, by omega⟩ | (split <;> exact ⟨by omega, by omega⟩) | exact cmpZ_ok _ _ | exact mul_ok (by omega) (by omega) (by omega) (by omega)) (by first | exact ⟨by omega, by omega⟩ | (split <;> exact ⟨by omega, by omega⟩) | exact cmpZ_ok _ _ | exact mul_ok (by omega) (by omega) (by omega) (by omega)) d_MD_pass_133 (by decide) (fun c133 => ?_) (fun c133 => ?_)
      · exfalso
        omega
      · refine g_1 (fun w => lv_aload_n X.1 X.2.1 d_MD_pass_136 rfl (lv_at hl 5 rfl) w) ?_
        refine g_get X (ci := 4) rfl f0 6 (by decide) ⟨rfl, rfl⟩ tw_508 (Or.inl rfl) rfl d_MD_pass_137 ?_
        refine g_1 (fun w => lv_iload X.1 X.2.1 d_MD_pass_140 (lv_at hl 0 rfl) w) ?_
        refine g_1 (fun w => lv_aload_n X.1 X.2.1 d_MD_pass_142 rfl (lv_at hl 5 rfl) w) ?_
        refine g_get X (ci := 4) rfl f0 6 (by decide) ⟨rfl, rfl⟩ tw_508 (Or.inl rfl) rfl d_MD_pass_143 ?_
        refine g_1 (fun w => lv_iload X.1 X.2.1 d_MD_pass_146 (lv_at hl 0 rfl) w) ?_
        refine g_1 (fun w => lv_iconst (v := iZ 1) X.1 X.2.1 d_MD_pass_148 rfl w) ?_
        refine g_isub X d_MD_pass_149 ?_
        refine g_ild X f6 (k - 1) (by omega) (by omega) (by omega) d_MD_pass_150 ?_
        refine g_ist X f6 (Nat.succ_ne_zero _) (k) (rfl) (by omega) (by omega) d_MD_pass_151 ?_
        obtain ⟨h_1, eh_1⟩ : ∃ z, z = g_up hh p6 ((23, a), gI D 17408 (va_up (yy_) (k) (yy_ (k - 1)))) := ⟨_, rfl⟩
        refine g_h (h' := h_1) eh_1.symm ?_
        have f_2 : h_1 a = some ((20, 0), .inr (4, [.int (iZ (0)), .int (iZ (mN M)), .int (iZ (mA M)), .ref p3, .ref p4, .int (iZ (mU M)), .ref p6, .ref p7, .int (iZ (mY M)), .ref p9, .ref p10, .ref p11, .ref p12, .ref p13, .ref p14])) := by rw [eh_1]; exact g_uk f0 f6 (show (20 : Nat) ≠ 23 by decide)
        have f_3 : h_1 p3 = some ((21, a), gI D 1024 (aP M)) := by rw [eh_1]; exact g_uk f3 f6 (show (21 : Nat) ≠ 23 by decide)
        have f_4 : h_1 p4 = some ((22, a), gI D 1024 (aB M)) := by rw [eh_1]; exact g_uk f4 f6 (show (22 : Nat) ≠ 23 by decide)
        have f_5 : h_1 p6 = some ((23, a), gI D 17408 (va_up (yy_) (k) (yy_ (k - 1)))) := by rw [eh_1]; exact g_us
        have f_6 : h_1 p7 = some ((24, a), gL D 17408 (gg_)) := by rw [eh_1]; exact g_uk f7 f6 (show (24 : Nat) ≠ 23 by decide)
        have f_7 : h_1 p9 = some ((25, a), gI D 65536 (aC M)) := by rw [eh_1]; exact g_uk f9 f6 (show (25 : Nat) ≠ 23 by decide)
        have f_8 : h_1 p10 = some ((26, a), gI D 64 (aT M)) := by rw [eh_1]; exact g_uk f10 f6 (show (26 : Nat) ≠ 23 by decide)
        have f_9 : h_1 p11 = some ((27, a), gL D 64 (aL M)) := by rw [eh_1]; exact g_uk f11 f6 (show (27 : Nat) ≠ 23 by decide)
        have f_10 : h_1 p12 = some ((28, a), gI D 64 (aM M)) := by rw [eh_1]; exact g_uk f12 f6 (show (28 : Nat) ≠ 23 by decide)
        have f_11 : h_1 p13 = some ((29, a), gI D 1024 (aK M)) := by rw [eh_1]; exact g_uk f13 f6 (show (29 : Nat) ≠ 23 by decide)
        have f_12 : h_1 p14 = some ((30, a), gI D 1024 (aX M)) := by rw [eh_1]; exact g_uk f14 f6 (show (30 : Nat) ≠ 23 by decide)
        have hk_13 := kp_up (hkk) eh_1 f6 (⟨Nat.le_of_ble_eq_true rfl, Nat.le_of_ble_eq_true rfl⟩)
        refine g_1 (fun w => lv_aload_n X.1 X.2.1 d_MD_pass_152 rfl (lv_at hl 5 rfl) w) ?_
        refine g_get X (ci := 4) rfl f_2 7 (by decide) ⟨rfl, rfl⟩ tw_509 (Or.inl rfl) rfl d_MD_pass_153 ?_
        refine g_1 (fun w => lv_iload X.1 X.2.1 d_MD_pass_156 (lv_at hl 0 rfl) w) ?_
        refine g_1 (fun w => lv_aload_n X.1 X.2.1 d_MD_pass_158 rfl (lv_at hl 5 rfl) w) ?_
        refine g_get X (ci := 4) rfl f_2 7 (by decide) ⟨rfl, rfl⟩ tw_509 (Or.inl rfl) rfl d_MD_pass_159 ?_
        refine g_1 (fun w => lv_iload X.1 X.2.1 d_MD_pass_162 (lv_at hl 0 rfl) w) ?_
        refine g_1 (fun w => lv_iconst (v := iZ 1) X.1 X.2.1 d_MD_pass_164 rfl w) ?_
        refine g_isub X d_MD_pass_165 ?_
        refine g_lld X f_6 (k - 1) (by omega) (by omega) (by omega) d_MD_pass_166 ?_
        refine g_lst X f_6 (Nat.succ_ne_zero _) (k) (rfl) (by omega) (by omega) d_MD_pass_167 ?_
        obtain ⟨h_14, eh_14⟩ : ∃ z, z = g_up h_1 p7 ((24, a), gL D 17408 (va_up (gg_) (k) (gg_ (k - 1)))) := ⟨_, rfl⟩
        refine g_h (h' := h_14) eh_14.symm ?_
        have f_15 : h_14 a = some ((20, 0), .inr (4, [.int (iZ (0)), .int (iZ (mN M)), .int (iZ (mA M)), .ref p3, .ref p4, .int (iZ (mU M)), .ref p6, .ref p7, .int (iZ (mY M)), .ref p9, .ref p10, .ref p11, .ref p12, .ref p13, .ref p14])) := by rw [eh_14]; exact g_uk f_2 f_6 (show (20 : Nat) ≠ 24 by decide)
        have f_16 : h_14 p3 = some ((21, a), gI D 1024 (aP M)) := by rw [eh_14]; exact g_uk f_3 f_6 (show (21 : Nat) ≠ 24 by decide)
        have f_17 : h_14 p4 = some ((22, a), gI D 1024 (aB M)) := by rw [eh_14]; exact g_uk f_4 f_6 (show (22 : Nat) ≠ 24 by decide)
        have f_18 : h_14 p6 = some ((23, a), gI D 17408 (va_up (yy_) (k) (yy_ (k - 1)))) := by rw [eh_14]; exact g_uk f_5 f_6 (show (23 : Nat) ≠ 24 by decide)
        have f_19 : h_14 p7 = some ((24, a), gL D 17408 (va_up (gg_) (k) (gg_ (k - 1)))) := by rw [eh_14]; exact g_us
        have f_20 : h_14 p9 = some ((25, a), gI D 65536 (aC M)) := by rw [eh_14]; exact g_uk f_7 f_6 (show (25 : Nat) ≠ 24 by decide)
        have f_21 : h_14 p10 = some ((26, a), gI D 64 (aT M)) := by rw [eh_14]; exact g_uk f_8 f_6 (show (26 : Nat) ≠ 24 by decide)
        have f_22 : h_14 p11 = some ((27, a), gL D 64 (aL M)) := by rw [eh_14]; exact g_uk f_9 f_6 (show (27 : Nat) ≠ 24 by decide)
        have f_23 : h_14 p12 = some ((28, a), gI D 64 (aM M)) := by rw [eh_14]; exact g_uk f_10 f_6 (show (28 : Nat) ≠ 24 by decide)
        have f_24 : h_14 p13 = some ((29, a), gI D 1024 (aK M)) := by rw [eh_14]; exact g_uk f_11 f_6 (show (29 : Nat) ≠ 24 by decide)
        have f_25 : h_14 p14 = some ((30, a), gI D 1024 (aX M)) := by rw [eh_14]; exact g_uk f_12 f_6 (show (30 : Nat) ≠ 24 by decide)
        have hk_26 := kp_up (hk_13) eh_14 f_6 (⟨Nat.le_of_ble_eq_true rfl, Nat.le_of_ble_eq_true rfl⟩)
        refine g_s (fun kk => lv_iinc (v := iZ (k + (-1))) (lv' := [(7, .int (iZ (k + (-1)))), (6, .int (iZ (aB M bi + aP M bi))), (3, .long (lZ (g))), (2, .int (iZ (nn))), (1, .int (iZ (bi))), (0, .ref a)]) X.1 X.2.1 d_MD_pass_168 hl (k := 0) rfl (iZ_add _ _) (by decide) rfl kk) (fun ls hl => ?_)
        refine g_goto (tgt := 127) X d_MD_pass_171 (by decide) ?_
        have hl := lv_sub hl [0, 1, 2, 3, 4, 5] rfl
        have hl : lv_has ls 8 [(7, .int (iZ ((k - 1 : Nat) : Int))), (6, .int (iZ (aB M bi + aP M bi))), (3, .long (lZ g)), (2, .int (iZ nn)), (1, .int (iZ bi)), (0, .ref a)] := by rw [show ((k - 1 : Nat) : Int) = (k : Int) + (-1) by omega]; exact hl
        exact ih (k - 1) h_14 (va_up yy_ k (yy_ (k - 1))) (va_up gg_ k (gg_ (k - 1))) ls (by omega) (by omega) ⟨p3, p4, p6, p7, p9, p10, p11, p12, p13, p14, f_15, f_16, f_17, f_18, f_19, f_20, f_21, f_22, f_23, f_24, f_25⟩ (fun j h1 h2 => by
          by_cases ez : j = k
          · rw [ez, va_up_self, va_up_self]; exact hY1 (k - 1) (by omega)
          · rw [va_up_ne _ _ ez, va_up_ne _ _ ez]; exact hY2 j (by omega) h2) (fun j hj => by rw [va_up_ne _ _ (by omega), va_up_ne _ _ (by omega)]; exact hY1 j (by omega)) hk_26 hl
  refine g_1 (fun w => lv_iload_n X.1 X.2.1 d_MD_pass_0 rfl (lv_at hl 1 rfl) w) ?_
  refine g_1 (fun w => lv_iconst (v := iZ 0) X.1 X.2.1 d_MD_pass_1 rfl w) ?_
  refine g_1 (fun w => lv_aload_n X.1 X.2.1 d_MD_pass_2 rfl (lv_at hl 0 rfl) w) ?_
  refine g_get X (ci := 4) rfl f0 1 (by decide) ⟨rfl, rfl⟩ tw_503 (Or.inl rfl) rfl d_MD_pass_3 ?_
  refine g_1 (fun w => lv_iconst (v := iZ 1) X.1 X.2.1 d_MD_pass_6 rfl w) ?_
  refine g_isub X d_MD_pass_7 ?_
  refine g_callS (na := 3) X (c_MD_out B0 ⟨by omega, by omega⟩ ⟨by omega, by omega⟩ ⟨by omega, by omega⟩) rfl ⟨⟨tw_570, tw_5⟩, ⟨by decide, by decide, by decide +kernel⟩, by decide, by decide⟩ tw_568 tw_569 rfl hl.1 (Nat.le_of_ble_eq_true rfl) ⟨by decide, by decide⟩ d_MD_pass_8 (fun v h' hp => ?_)
  obtain ⟨rfl, rfl⟩ := hp
  refine g_widen (k' := 0) (n' := 0) (by decide) (by decide) ?_
  show G D s0 p l e _ s m _ below meth c h _ _ _ (F0 m 11 ls [.int (iZ (if i < 0 ∨ (mN M) - 1 < i then 1 else 0))])
  refine g_if_ne (tgt := 34) X (by first | exact ⟨by omega, by omega⟩ | (split <;> exact ⟨by omega, by omega⟩) | exact cmpZ_ok _ _ | exact mul_ok (by omega) (by omega) (by omega) (by omega)) d_MD_pass_11 (by decide) (fun c11 => ?_) (fun c11 => ?_)
  · refine g_1 (fun w => lv_iconst (v := iZ 1) X.1 X.2.1 d_MD_pass_34 rfl w) ?_
    refine g_goto (tgt := 39) X d_MD_pass_35 (by decide) ?_
    refine g_s (fun kk => lv_istore (lv' := [(5, .int (iZ (1))), (0, .ref a), (1, .int (iZ (i))), (2, .int (iZ (nn))), (3, .long (lZ (g)))]) X.1 X.2.1 d_MD_pass_39 hl (by decide) rfl kk) (fun ls hl => ?_)
    refine g_1 (fun w => lv_iload X.1 X.2.1 d_MD_pass_41 (lv_at hl 0 rfl) w) ?_
    refine g_if_eq (tgt := 50) X (by first | exact ⟨by omega, by omega⟩ | (split <;> exact ⟨by omega, by omega⟩) | exact cmpZ_ok _ _ | exact mul_ok (by omega) (by omega) (by omega) (by omega)) d_MD_pass_43 (by decide) (fun c43 => ?_) (fun c43 => ?_)
    · exact absurd c43 (by decide)
    · refine g_1 (fun w => lv_iconst (v := iZ 0) X.1 X.2.1 d_MD_pass_46 rfl w) ?_
      refine g_goto (tgt := 63) X d_MD_pass_47 (by decide) ?_
      refine g_s (fun kk => lv_istore (lv' := [(6, .int (iZ (0))), (5, .int (iZ (1))), (0, .ref a), (1, .int (iZ (i))), (2, .int (iZ (nn))), (3, .long (lZ (g)))]) X.1 X.2.1 d_MD_pass_63 hl (by decide) rfl kk) (fun ls hl => ?_)
      refine g_1 (fun w => lv_aload_n X.1 X.2.1 d_MD_pass_65 rfl (lv_at hl 2 rfl) w) ?_
      refine g_1 (fun w => lv_iload X.1 X.2.1 d_MD_pass_66 (lv_at hl 1 rfl) w) ?_
      refine g_1 (fun w => lv_iload X.1 X.2.1 d_MD_pass_68 (lv_at hl 1 rfl) w) ?_
      refine g_if_ne (tgt := 112) X (by first | exact ⟨by omega, by omega⟩ | (split <;> exact ⟨by omega, by omega⟩) | exact cmpZ_ok _ _ | exact mul_ok (by omega) (by omega) (by omega) (by omega)) d_MD_pass_70 (by decide) (fun c70 => ?_) (fun c70 => ?_)
      · refine g_1 (fun w => lv_iconst (v := iZ 0) X.1 X.2.1 d_MD_pass_112 rfl w) ?_
        refine g_callV (na := 2) X (c_MD_throwing B0 hm ⟨by omega, by omega⟩ ⟨by omega, by omega⟩ (t := 1) (by decide) (r := 1) (by decide)) rfl f0 rfl ⟨⟨tw_563, tw_5⟩, ⟨by decide, by decide, by decide +kernel⟩, by decide, by decide⟩ tw_560 tw_562 ts_MD_throwing rfl hl.1 (Nat.le_of_ble_eq_true rfl) ⟨by decide, by decide⟩ d_MD_pass_113 (fun v h_1 hp => ?_)
        obtain ⟨rfl, hm, hkT⟩ := hp
        obtain ⟨p3, p4, p6, p7, p9, p10, p11, p12, p13, p14, f0, f3, f4, f6, f7, f9, f10, f11, f12, f13, f14⟩ := id hm
        refine g_widen (k' := 0) (n' := 0) (by decide) (by decide) ?_
        show G D s0 p l e _ s m _ below meth c h_1 _ _ _ (F0 m 116 ls [.int (iZ (1))])
        refine g_if_eq (tgt := 121) X (by first | exact ⟨by omega, by omega⟩ | (split <;> exact ⟨by omega, by omega⟩) | exact cmpZ_ok _ _ | exact mul_ok (by omega) (by omega) (by omega) (by omega)) d_MD_pass_116 (by decide) (fun c116 => ?_) (fun c116 => ?_)
        · exact absurd c116 (by decide)
        · refine g_1 (fun w => lv_iconst (v := iZ 0) X.1 X.2.1 d_MD_pass_119 rfl w) ?_
          exact g_iret X (⟨1, 0, rfl, hkT, Or.inl ⟨Or.inl (by have z := if_1 c11; omega), rfl, hm⟩⟩) (by decide) (by decide) d_MD_pass_120
      · exact absurd c70 (by decide)
  · refine g_1 (fun w => lv_iload_n X.1 X.2.1 d_MD_pass_14 rfl (lv_at hl 2 rfl) w) ?_
    refine g_if_lt (tgt := 34) X (by first | exact ⟨by omega, by omega⟩ | (split <;> exact ⟨by omega, by omega⟩) | exact cmpZ_ok _ _ | exact mul_ok (by omega) (by omega) (by omega) (by omega)) d_MD_pass_15 (by decide) (fun c15 => ?_) (fun c15 => ?_)
    · refine g_1 (fun w => lv_iconst (v := iZ 1) X.1 X.2.1 d_MD_pass_34 rfl w) ?_
      refine g_goto (tgt := 39) X d_MD_pass_35 (by decide) ?_
      refine g_s (fun kk => lv_istore (lv' := [(5, .int (iZ (1))), (0, .ref a), (1, .int (iZ (i))), (2, .int (iZ (nn))), (3, .long (lZ (g)))]) X.1 X.2.1 d_MD_pass_39 hl (by decide) rfl kk) (fun ls hl => ?_)
      refine g_1 (fun w => lv_iload X.1 X.2.1 d_MD_pass_41 (lv_at hl 0 rfl) w) ?_
      refine g_if_eq (tgt := 50) X (by first | exact ⟨by omega, by omega⟩ | (split <;> exact ⟨by omega, by omega⟩) | exact cmpZ_ok _ _ | exact mul_ok (by omega) (by omega) (by omega) (by omega)) d_MD_pass_43 (by decide) (fun c43 => ?_) (fun c43 => ?_)
      · exact absurd c43 (by decide)
      · refine g_1 (fun w => lv_iconst (v := iZ 0) X.1 X.2.1 d_MD_pass_46 rfl w) ?_
        refine g_goto (tgt := 63) X d_MD_pass_47 (by decide) ?_
        refine g_s (fun kk => lv_istore (lv' := [(6, .int (iZ (0))), (5, .int (iZ (1))), (0, .ref a), (1, .int (iZ (i))), (2, .int (iZ (nn))), (3, .long (lZ (g)))]) X.1 X.2.1 d_MD_pass_63 hl (by decide) rfl kk) (fun ls hl => ?_)
        refine g_1 (fun w => lv_aload_n X.1 X.2.1 d_MD_pass_65 rfl (lv_at hl 2 rfl) w) ?_
        refine g_1 (fun w => lv_iload X.1 X.2.1 d_MD_pass_66 (lv_at hl 1 rfl) w) ?_
        refine g_1 (fun w => lv_iload X.1 X.2.1 d_MD_pass_68 (lv_at hl 1 rfl) w) ?_
        refine g_if_ne (tgt := 112) X (by first | exact ⟨by omega, by omega⟩ | (split <;> exact ⟨by omega, by omega⟩) | exact cmpZ_ok _ _ | exact mul_ok (by omega) (by omega) (by omega) (by omega)) d_MD_pass_70 (by decide) (fun c70 => ?_) (fun c70 => ?_)
        · refine g_1 (fun w => lv_iconst (v := iZ 0) X.1 X.2.1 d_MD_pass_112 rfl w) ?_
          refine g_callV (na := 2) X (c_MD_throwing B0 hm ⟨by omega, by omega⟩ ⟨by omega, by omega⟩ (t := 1) (by decide) (r := 1) (by decide)) rfl f0 rfl ⟨⟨tw_563, tw_5⟩, ⟨by decide, by decide, by decide +kernel⟩, by decide, by decide⟩ tw_560 tw_562 ts_MD_throwing rfl hl.1 (Nat.le_of_ble_eq_true rfl) ⟨by decide, by decide⟩ d_MD_pass_113 (fun v h_2 hp => ?_)
          obtain ⟨rfl, hm, hkT⟩ := hp
          obtain ⟨p3, p4, p6, p7, p9, p10, p11, p12, p13, p14, f0, f3, f4, f6, f7, f9, f10, f11, f12, f13, f14⟩ := id hm
          refine g_widen (k' := 0) (n' := 0) (by decide) (by decide) ?_
          show G D s0 p l e _ s m _ below meth c h_2 _ _ _ (F0 m 116 ls [.int (iZ (1))])
          refine g_if_eq (tgt := 121) X (by first | exact ⟨by omega, by omega⟩ | (split <;> exact ⟨by omega, by omega⟩) | exact cmpZ_ok _ _ | exact mul_ok (by omega) (by omega) (by omega) (by omega)) d_MD_pass_116 (by decide) (fun c116 => ?_) (fun c116 => ?_)
          · exact absurd c116 (by decide)
          · refine g_1 (fun w => lv_iconst (v := iZ 0) X.1 X.2.1 d_MD_pass_119 rfl w) ?_
            exact g_iret X (⟨1, 0, rfl, hkT, Or.inl ⟨Or.inr (Or.inl (by omega)), rfl, hm⟩⟩) (by decide) (by decide) d_MD_pass_120
        · exact absurd c70 (by decide)
    · refine g_1 (fun w => lv_lload_n X.1 X.2.1 d_MD_pass_18 rfl (lv_at hl 3 rfl) w) ?_
      refine g_1 (fun w => lv_ldc2 X.1 X.2.1 X.2.2.2.2.2.1 (X.w tw_571 rfl) d_MD_pass_19 w) ?_
      refine g_tl (show _ = lZ (-274877906944) by decide) ?_
      refine g_lcmp X (by first | exact ⟨by omega, by omega⟩ | (split <;> exact ⟨by omega, by omega⟩) | exact cmpZ_ok _ _ | exact mul_ok (by omega) (by omega) (by omega) (by omega)) (by first | exact ⟨by omega, by omega⟩ | (split <;> exact ⟨by omega, by omega⟩) | exact cmpZ_ok _ _ | exact mul_ok (by omega) (by omega) (by omega) (by omega)) d_MD_pass_22 ?_
      refine g_if_lt (tgt := 34) X (cmpZ_ok _ _) d_MD_pass_23 (by decide) (fun c23 => ?_) (fun c23 => ?_)
      · refine g_1 (fun w => lv_iconst (v := iZ 1) X.1 X.2.1 d_MD_pass_34 rfl w) ?_
        refine g_goto (tgt := 39) X d_MD_pass_35 (by decide) ?_
        refine g_s (fun kk => lv_istore (lv' := [(5, .int (iZ (1))), (0, .ref a), (1, .int (iZ (i))), (2, .int (iZ (nn))), (3, .long (lZ (g)))]) X.1 X.2.1 d_MD_pass_39 hl (by decide) rfl kk) (fun ls hl => ?_)
        refine g_1 (fun w => lv_iload X.1 X.2.1 d_MD_pass_41 (lv_at hl 0 rfl) w) ?_
        refine g_if_eq (tgt := 50) X (by first | exact ⟨by omega, by omega⟩ | (split <;> exact ⟨by omega, by omega⟩) | exact cmpZ_ok _ _ | exact mul_ok (by omega) (by omega) (by omega) (by omega)) d_MD_pass_43 (by decide) (fun c43 => ?_) (fun c43 => ?_)
        · exact absurd c43 (by decide)
        · refine g_1 (fun w => lv_iconst (v := iZ 0) X.1 X.2.1 d_MD_pass_46 rfl w) ?_
          refine g_goto (tgt := 63) X d_MD_pass_47 (by decide) ?_
          refine g_s (fun kk => lv_istore (lv' := [(6, .int (iZ (0))), (5, .int (iZ (1))), (0, .ref a), (1, .int (iZ (i))), (2, .int (iZ (nn))), (3, .long (lZ (g)))]) X.1 X.2.1 d_MD_pass_63 hl (by decide) rfl kk) (fun ls hl => ?_)
          refine g_1 (fun w => lv_aload_n X.1 X.2.1 d_MD_pass_65 rfl (lv_at hl 2 rfl) w) ?_
          refine g_1 (fun w => lv_iload X.1 X.2.1 d_MD_pass_66 (lv_at hl 1 rfl) w) ?_
          refine g_1 (fun w => lv_iload X.1 X.2.1 d_MD_pass_68 (lv_at hl 1 rfl) w) ?_
          refine g_if_ne (tgt := 112) X (by first | exact ⟨by omega, by omega⟩ | (split <;> exact ⟨by omega, by omega⟩) | exact cmpZ_ok _ _ | exact mul_ok (by omega) (by omega) (by omega) (by omega)) d_MD_pass_70 (by decide) (fun c70 => ?_) (fun c70 => ?_)
          · refine g_1 (fun w => lv_iconst (v := iZ 0) X.1 X.2.1 d_MD_pass_112 rfl w) ?_
            refine g_callV (na := 2) X (c_MD_throwing B0 hm ⟨by omega, by omega⟩ ⟨by omega, by omega⟩ (t := 1) (by decide) (r := 1) (by decide)) rfl f0 rfl ⟨⟨tw_563, tw_5⟩, ⟨by decide, by decide, by decide +kernel⟩, by decide, by decide⟩ tw_560 tw_562 ts_MD_throwing rfl hl.1 (Nat.le_of_ble_eq_true rfl) ⟨by decide, by decide⟩ d_MD_pass_113 (fun v h_3 hp => ?_)
            obtain ⟨rfl, hm, hkT⟩ := hp
            obtain ⟨p3, p4, p6, p7, p9, p10, p11, p12, p13, p14, f0, f3, f4, f6, f7, f9, f10, f11, f12, f13, f14⟩ := id hm
            refine g_widen (k' := 0) (n' := 0) (by decide) (by decide) ?_
            show G D s0 p l e _ s m _ below meth c h_3 _ _ _ (F0 m 116 ls [.int (iZ (1))])
            refine g_if_eq (tgt := 121) X (by first | exact ⟨by omega, by omega⟩ | (split <;> exact ⟨by omega, by omega⟩) | exact cmpZ_ok _ _ | exact mul_ok (by omega) (by omega) (by omega) (by omega)) d_MD_pass_116 (by decide) (fun c116 => ?_) (fun c116 => ?_)
            · exact absurd c116 (by decide)
            · refine g_1 (fun w => lv_iconst (v := iZ 0) X.1 X.2.1 d_MD_pass_119 rfl w) ?_
              exact g_iret X (⟨1, 0, rfl, hkT, Or.inl ⟨Or.inr (Or.inr (Or.inl (by rcases (show g < -274877906944 ∨ -274877906944 ≤ g by omega) with z | z; exact z; have y := cmpZ_ge.mpr z; omega))), rfl, hm⟩⟩) (by decide) (by decide) d_MD_pass_120
          · exact absurd c70 (by decide)
      · have hg3 : -274877906944 ≤ g := by have z := cmpZ_ge.mp c23; omega
        refine g_1 (fun w => lv_lload_n X.1 X.2.1 d_MD_pass_26 rfl (lv_at hl 3 rfl) w) ?_
        refine g_1 (fun w => lv_ldc2 X.1 X.2.1 X.2.2.2.2.2.1 (X.w tw_572 rfl) d_MD_pass_27 w) ?_
        refine g_tl (show _ = lZ (274877906944) by decide) ?_
        refine g_lcmp X (by first | exact ⟨by omega, by omega⟩ | (split <;> exact ⟨by omega, by omega⟩) | exact cmpZ_ok _ _ | exact mul_ok (by omega) (by omega) (by omega) (by omega)) (by first | exact ⟨by omega, by omega⟩ | (split <;> exact ⟨by omega, by omega⟩) | exact cmpZ_ok _ _ | exact mul_ok (by omega) (by omega) (by omega) (by omega)) d_MD_pass_30 ?_
        refine g_if_le (tgt := 38) X (cmpZ_ok _ _) d_MD_pass_31 (by decide) (fun c31 => ?_) (fun c31 => ?_)
        · refine g_1 (fun w => lv_iconst (v := iZ 0) X.1 X.2.1 d_MD_pass_38 rfl w) ?_
          refine g_s (fun kk => lv_istore (lv' := [(5, .int (iZ (0))), (0, .ref a), (1, .int (iZ (i))), (2, .int (iZ (nn))), (3, .long (lZ (g)))]) X.1 X.2.1 d_MD_pass_39 hl (by decide) rfl kk) (fun ls hl => ?_)
          refine g_1 (fun w => lv_iload X.1 X.2.1 d_MD_pass_41 (lv_at hl 0 rfl) w) ?_
          refine g_if_eq (tgt := 50) X (by first | exact ⟨by omega, by omega⟩ | (split <;> exact ⟨by omega, by omega⟩) | exact cmpZ_ok _ _ | exact mul_ok (by omega) (by omega) (by omega) (by omega)) d_MD_pass_43 (by decide) (fun c43 => ?_) (fun c43 => ?_)
          · have hg4 : g ≤ 274877906944 := by
              rcases (show 274877906944 < g ∨ g ≤ 274877906944 by omega) with z | z
              · have y := cmpZ_gt.mpr z; omega
              · exact z
            obtain ⟨bi, rfl, hbi⟩ : ∃ bi : Nat, (bi : Int) = i ∧ bi < n := ⟨i.toNat, by have z := if_0 c11; omega, by have z := if_0 c11; omega⟩
            obtain ⟨u1, u2, u3⟩ := v5 bi hbi
            obtain ⟨⟨⟨k1, k2, k3, k4, k5, k6, k7, k8⟩, w2, w3, w4⟩, w5, w6⟩ := id (hw bi hbi)
            have hbl := beg_lt bs hbi
            have ub := u3 (bP (bs bi)) (Nat.le_refl _)
            have kb := k6 (bP (bs bi))
            refine g_1 (fun w => lv_aload_n X.1 X.2.1 d_MD_pass_50 rfl (lv_at hl 1 rfl) w) ?_
            refine g_get X (ci := 4) rfl f0 4 (by decide) ⟨rfl, rfl⟩ tw_506 (Or.inl rfl) rfl d_MD_pass_51 ?_
            refine g_1 (fun w => lv_iload_n X.1 X.2.1 d_MD_pass_54 rfl (lv_at hl 2 rfl) w) ?_
            refine g_ild X f4 (bi) (rfl) (by omega) (by omega) d_MD_pass_55 ?_
            refine g_1 (fun w => lv_aload_n X.1 X.2.1 d_MD_pass_56 rfl (lv_at hl 1 rfl) w) ?_
            refine g_get X (ci := 4) rfl f0 3 (by decide) ⟨rfl, rfl⟩ tw_505 (Or.inl rfl) rfl d_MD_pass_57 ?_
            refine g_1 (fun w => lv_iload_n X.1 X.2.1 d_MD_pass_60 rfl (lv_at hl 2 rfl) w) ?_
            refine g_ild X f3 (bi) (rfl) (by omega) (by omega) d_MD_pass_61 ?_
            refine g_iadd X d_MD_pass_62 ?_
            refine g_s (fun kk => lv_istore (lv' := [(6, .int (iZ (aB M bi + (aP M bi)))), (5, .int (iZ (0))), (0, .ref a), (1, .int (iZ (bi))), (2, .int (iZ (nn))), (3, .long (lZ (g)))]) X.1 X.2.1 d_MD_pass_63 hl (by decide) rfl kk) (fun ls hl => ?_)
            refine g_1 (fun w => lv_aload_n X.1 X.2.1 d_MD_pass_65 rfl (lv_at hl 2 rfl) w) ?_
            refine g_1 (fun w => lv_iload X.1 X.2.1 d_MD_pass_66 (lv_at hl 1 rfl) w) ?_
            refine g_1 (fun w => lv_iload X.1 X.2.1 d_MD_pass_68 (lv_at hl 1 rfl) w) ?_
            refine g_if_ne (tgt := 112) X (by first | exact ⟨by omega, by omega⟩ | (split <;> exact ⟨by omega, by omega⟩) | exact cmpZ_ok _ _ | exact mul_ok (by omega) (by omega) (by omega) (by omega)) d_MD_pass_70 (by decide) (fun c70 => ?_) (fun c70 => ?_)
            · exact absurd c70 (by decide)
            · refine g_1 (fun w => lv_aload_n X.1 X.2.1 d_MD_pass_73 rfl (lv_at hl 2 rfl) w) ?_
              refine g_get X (ci := 4) rfl f0 3 (by decide) ⟨rfl, rfl⟩ tw_505 (Or.inl rfl) rfl d_MD_pass_74 ?_
              refine g_1 (fun w => lv_iload_n X.1 X.2.1 d_MD_pass_77 rfl (lv_at hl 3 rfl) w) ?_
              refine g_ild X f3 (bi) (rfl) (by omega) (by omega) d_MD_pass_78 ?_
              refine g_1 (fun w => lv_bipush (v := iZ 120) X.1 X.2.1 d_MD_pass_79 (by decide) w) ?_
              refine g_icmp_eq (tgt := 108) X (by first | exact ⟨by omega, by omega⟩ | (split <;> exact ⟨by omega, by omega⟩) | exact cmpZ_ok _ _ | exact mul_ok (by omega) (by omega) (by omega) (by omega)) (by first | exact ⟨by omega, by omega⟩ | (split <;> exact ⟨by omega, by omega⟩) | exact cmpZ_ok _ _ | exact mul_ok (by omega) (by omega) (by omega) (by omega)) d_MD_pass_81 (by decide) (fun c81 => ?_) (fun c81 => ?_)
              · refine g_1 (fun w => lv_iconst (v := iZ 1) X.1 X.2.1 d_MD_pass_108 rfl w) ?_
                refine g_goto (tgt := 113) X d_MD_pass_109 (by decide) ?_
                refine g_callV (na := 2) X (c_MD_throwing B0 hm ⟨by omega, by omega⟩ ⟨by omega, by omega⟩ (t := 2) (by decide) (r := 1) (by decide)) rfl f0 rfl ⟨⟨tw_563, tw_5⟩, ⟨by decide, by decide, by decide +kernel⟩, by decide, by decide⟩ tw_560 tw_562 ts_MD_throwing rfl hl.1 (Nat.le_of_ble_eq_true rfl) ⟨by decide, by decide⟩ d_MD_pass_113 (fun v h_4 hp => ?_)
                obtain ⟨rfl, hm, hkT⟩ := hp
                obtain ⟨p3, p4, p6, p7, p9, p10, p11, p12, p13, p14, f0, f3, f4, f6, f7, f9, f10, f11, f12, f13, f14⟩ := id hm
                refine g_widen (k' := 0) (n' := 0) (by decide) (by decide) ?_
                show G D s0 p l e _ s m _ below meth c h_4 _ _ _ (F0 m 116 ls [.int (iZ (1))])
                refine g_if_eq (tgt := 121) X (by first | exact ⟨by omega, by omega⟩ | (split <;> exact ⟨by omega, by omega⟩) | exact cmpZ_ok _ _ | exact mul_ok (by omega) (by omega) (by omega) (by omega)) d_MD_pass_116 (by decide) (fun c116 => ?_) (fun c116 => ?_)
                · exact absurd c116 (by decide)
                · refine g_1 (fun w => lv_iconst (v := iZ 0) X.1 X.2.1 d_MD_pass_119 rfl w) ?_
                  exact g_iret X (⟨2, 0, rfl, hkT, Or.inr ⟨by omega, bi, rfl, hbi, Or.inl ⟨by omega, rfl, hm⟩⟩⟩) (by decide) (by decide) d_MD_pass_120
              · refine g_1 (fun w => lv_iload_n X.1 X.2.1 d_MD_pass_84 rfl (lv_at hl 4 rfl) w) ?_
                refine g_1 (fun w => lv_ldc X.1 X.2.1 X.2.2.2.2.2.1 (X.w tw_573 rfl) d_MD_pass_85 w) ?_
                refine g_ti (show _ = iZ 65535 by decide) ?_
                refine g_1 (fun w => lv_aload_n X.1 X.2.1 d_MD_pass_87 rfl (lv_at hl 2 rfl) w) ?_
                refine g_get X (ci := 4) rfl f0 6 (by decide) ⟨rfl, rfl⟩ tw_508 (Or.inl rfl) rfl d_MD_pass_88 ?_
                refine g_1 (fun w => lv_iload X.1 X.2.1 d_MD_pass_91 (lv_at hl 0 rfl) w) ?_
                refine g_ild X f6 (beg bs bi + bP (bs bi)) (by omega) (by omega) (by omega) d_MD_pass_93 ?_
                refine g_isub X d_MD_pass_94 ?_
                refine g_icmp_gt (tgt := 108) X (by first | exact ⟨by omega, by omega⟩ | (split <;> exact ⟨by omega, by omega⟩) | exact cmpZ_ok _ _ | exact mul_ok (by omega) (by omega) (by omega) (by omega)) (by first | exact ⟨by omega, by omega⟩ | (split <;> exact ⟨by omega, by omega⟩) | exact cmpZ_ok _ _ | exact mul_ok (by omega) (by omega) (by omega) (by omega)) d_MD_pass_95 (by decide) (fun c95 => ?_) (fun c95 => ?_)
                · refine g_1 (fun w => lv_iconst (v := iZ 1) X.1 X.2.1 d_MD_pass_108 rfl w) ?_
                  refine g_goto (tgt := 113) X d_MD_pass_109 (by decide) ?_
                  refine g_callV (na := 2) X (c_MD_throwing B0 hm ⟨by omega, by omega⟩ ⟨by omega, by omega⟩ (t := 2) (by decide) (r := 1) (by decide)) rfl f0 rfl ⟨⟨tw_563, tw_5⟩, ⟨by decide, by decide, by decide +kernel⟩, by decide, by decide⟩ tw_560 tw_562 ts_MD_throwing rfl hl.1 (Nat.le_of_ble_eq_true rfl) ⟨by decide, by decide⟩ d_MD_pass_113 (fun v h_5 hp => ?_)
                  obtain ⟨rfl, hm, hkT⟩ := hp
                  obtain ⟨p3, p4, p6, p7, p9, p10, p11, p12, p13, p14, f0, f3, f4, f6, f7, f9, f10, f11, f12, f13, f14⟩ := id hm
                  refine g_widen (k' := 0) (n' := 0) (by decide) (by decide) ?_
                  show G D s0 p l e _ s m _ below meth c h_5 _ _ _ (F0 m 116 ls [.int (iZ (1))])
                  refine g_if_eq (tgt := 121) X (by first | exact ⟨by omega, by omega⟩ | (split <;> exact ⟨by omega, by omega⟩) | exact cmpZ_ok _ _ | exact mul_ok (by omega) (by omega) (by omega) (by omega)) d_MD_pass_116 (by decide) (fun c116 => ?_) (fun c116 => ?_)
                  · exact absurd c116 (by decide)
                  · refine g_1 (fun w => lv_iconst (v := iZ 0) X.1 X.2.1 d_MD_pass_119 rfl w) ?_
                    exact g_iret X (⟨2, 0, rfl, hkT, Or.inr ⟨by omega, bi, rfl, hbi, Or.inl ⟨by omega, rfl, hm⟩⟩⟩) (by decide) (by decide) d_MD_pass_120
                · refine g_1 (fun w => lv_aload_n X.1 X.2.1 d_MD_pass_98 rfl (lv_at hl 2 rfl) w) ?_
                  refine g_get X (ci := 4) rfl f0 2 (by decide) ⟨rfl, rfl⟩ tw_504 (Or.inl rfl) rfl d_MD_pass_99 ?_
                  refine g_1 (fun w => lv_sipush (v := iZ 16384) X.1 X.2.1 d_MD_pass_102 (by decide) w) ?_
                  refine g_icmp_ne (tgt := 112) X (by first | exact ⟨by omega, by omega⟩ | (split <;> exact ⟨by omega, by omega⟩) | exact cmpZ_ok _ _ | exact mul_ok (by omega) (by omega) (by omega) (by omega)) (by first | exact ⟨by omega, by omega⟩ | (split <;> exact ⟨by omega, by omega⟩) | exact cmpZ_ok _ _ | exact mul_ok (by omega) (by omega) (by omega) (by omega)) d_MD_pass_105 (by decide) (fun c105 => ?_) (fun c105 => ?_)
                  · refine g_1 (fun w => lv_iconst (v := iZ 0) X.1 X.2.1 d_MD_pass_112 rfl w) ?_
                    refine g_callV (na := 2) X (c_MD_throwing B0 hm ⟨by omega, by omega⟩ ⟨by omega, by omega⟩ (t := 0) (by decide) (r := 0) (by decide)) rfl f0 rfl ⟨⟨tw_563, tw_5⟩, ⟨by decide, by decide, by decide +kernel⟩, by decide, by decide⟩ tw_560 tw_562 ts_MD_throwing rfl hl.1 (Nat.le_of_ble_eq_true rfl) ⟨by decide, by decide⟩ d_MD_pass_113 (fun v h_6 hp => ?_)
                    obtain ⟨rfl, hm, hkT⟩ := hp
                    obtain ⟨p3, p4, p6, p7, p9, p10, p11, p12, p13, p14, f0, f3, f4, f6, f7, f9, f10, f11, f12, f13, f14⟩ := id hm
                    refine g_widen (k' := 0) (n' := 0) (by decide) (by decide) ?_
                    show G D s0 p l e _ s m _ below meth c h_6 _ _ _ (F0 m 116 ls [.int (iZ (0))])
                    refine g_if_eq (tgt := 121) X (by first | exact ⟨by omega, by omega⟩ | (split <;> exact ⟨by omega, by omega⟩) | exact cmpZ_ok _ _ | exact mul_ok (by omega) (by omega) (by omega) (by omega)) d_MD_pass_116 (by decide) (fun c116 => ?_) (fun c116 => ?_)
                    · have hfl2 : ¬ (16384 ≤ mA M ∨ ¬ (bP (bs bi) < 120 ∧ nn + bB (bs bi) (bP (bs bi)) ≤ 65535)) := by omega
                      have hroom : beg bs n < n + 16384 := by omega
                      refine g_1 (fun w => lv_aload_n X.1 X.2.1 d_MD_pass_121 rfl (lv_at hl 2 rfl) w) ?_
                      refine g_get X (ci := 4) rfl f0 5 (by decide) ⟨rfl, rfl⟩ tw_507 (Or.inl rfl) rfl d_MD_pass_122 ?_
                      refine g_s (fun kk => lv_istore (lv' := [(7, .int (iZ (mU M))), (6, .int (iZ (aB M bi + (aP M bi)))), (5, .int (iZ (0))), (0, .ref a), (1, .int (iZ (bi))), (2, .int (iZ (nn))), (3, .long (lZ (g)))]) X.1 X.2.1 d_MD_pass_125 hl (by decide) rfl kk) (fun ls hl => ?_)
                      exact loopA bi hbi rfl (by omega) hg3 hg4 hroom hfl2 (beg bs n - (beg bs bi + bP (bs bi)) - 1) (beg bs n) h_6 (aY M) (aG M) ls (by omega) (Nat.le_refl _) ⟨p3, p4, p6, p7, p9, p10, p11, p12, p13, p14, f0, f3, f4, f6, f7, f9, f10, f11, f12, f13, f14⟩ (fun j h1 h2 => absurd h1 (by omega)) (fun j _ => ⟨rfl, rfl⟩) hkT (by rw [← v3]; exact lv_sub hl [0, 1, 6, 5, 4, 3] rfl)
                    · exact absurd c116 (by decide)
                  · refine g_1 (fun w => lv_iconst (v := iZ 1) X.1 X.2.1 d_MD_pass_108 rfl w) ?_
                    refine g_goto (tgt := 113) X d_MD_pass_109 (by decide) ?_
                    refine g_callV (na := 2) X (c_MD_throwing B0 hm ⟨by omega, by omega⟩ ⟨by omega, by omega⟩ (t := 2) (by decide) (r := 1) (by decide)) rfl f0 rfl ⟨⟨tw_563, tw_5⟩, ⟨by decide, by decide, by decide +kernel⟩, by decide, by decide⟩ tw_560 tw_562 ts_MD_throwing rfl hl.1 (Nat.le_of_ble_eq_true rfl) ⟨by decide, by decide⟩ d_MD_pass_113 (fun v h_7 hp => ?_)
                    obtain ⟨rfl, hm, hkT⟩ := hp
                    obtain ⟨p3, p4, p6, p7, p9, p10, p11, p12, p13, p14, f0, f3, f4, f6, f7, f9, f10, f11, f12, f13, f14⟩ := id hm
                    refine g_widen (k' := 0) (n' := 0) (by decide) (by decide) ?_
                    show G D s0 p l e _ s m _ below meth c h_7 _ _ _ (F0 m 116 ls [.int (iZ (1))])
                    refine g_if_eq (tgt := 121) X (by first | exact ⟨by omega, by omega⟩ | (split <;> exact ⟨by omega, by omega⟩) | exact cmpZ_ok _ _ | exact mul_ok (by omega) (by omega) (by omega) (by omega)) d_MD_pass_116 (by decide) (fun c116 => ?_) (fun c116 => ?_)
                    · exact absurd c116 (by decide)
                    · refine g_1 (fun w => lv_iconst (v := iZ 0) X.1 X.2.1 d_MD_pass_119 rfl w) ?_
                      exact g_iret X (⟨2, 0, rfl, hkT, Or.inr ⟨by omega, bi, rfl, hbi, Or.inl ⟨by omega, rfl, hm⟩⟩⟩) (by decide) (by decide) d_MD_pass_120
          · exact absurd c43 (by decide)
        · refine g_1 (fun w => lv_iconst (v := iZ 1) X.1 X.2.1 d_MD_pass_34 rfl w) ?_
          refine g_goto (tgt := 39) X d_MD_pass_35 (by decide) ?_
          refine g_s (fun kk => lv_istore (lv' := [(5, .int (iZ (1))), (0, .ref a), (1, .int (iZ (i))), (2, .int (iZ (nn))), (3, .long (lZ (g)))]) X.1 X.2.1 d_MD_pass_39 hl (by decide) rfl kk) (fun ls hl => ?_)
          refine g_1 (fun w => lv_iload X.1 X.2.1 d_MD_pass_41 (lv_at hl 0 rfl) w) ?_
          refine g_if_eq (tgt := 50) X (by first | exact ⟨by omega, by omega⟩ | (split <;> exact ⟨by omega, by omega⟩) | exact cmpZ_ok _ _ | exact mul_ok (by omega) (by omega) (by omega) (by omega)) d_MD_pass_43 (by decide) (fun c43 => ?_) (fun c43 => ?_)
          · exact absurd c43 (by decide)
          · refine g_1 (fun w => lv_iconst (v := iZ 0) X.1 X.2.1 d_MD_pass_46 rfl w) ?_
            refine g_goto (tgt := 63) X d_MD_pass_47 (by decide) ?_
            refine g_s (fun kk => lv_istore (lv' := [(6, .int (iZ (0))), (5, .int (iZ (1))), (0, .ref a), (1, .int (iZ (i))), (2, .int (iZ (nn))), (3, .long (lZ (g)))]) X.1 X.2.1 d_MD_pass_63 hl (by decide) rfl kk) (fun ls hl => ?_)
            refine g_1 (fun w => lv_aload_n X.1 X.2.1 d_MD_pass_65 rfl (lv_at hl 2 rfl) w) ?_
            refine g_1 (fun w => lv_iload X.1 X.2.1 d_MD_pass_66 (lv_at hl 1 rfl) w) ?_
            refine g_1 (fun w => lv_iload X.1 X.2.1 d_MD_pass_68 (lv_at hl 1 rfl) w) ?_
            refine g_if_ne (tgt := 112) X (by first | exact ⟨by omega, by omega⟩ | (split <;> exact ⟨by omega, by omega⟩) | exact cmpZ_ok _ _ | exact mul_ok (by omega) (by omega) (by omega) (by omega)) d_MD_pass_70 (by decide) (fun c70 => ?_) (fun c70 => ?_)
            · refine g_1 (fun w => lv_iconst (v := iZ 0) X.1 X.2.1 d_MD_pass_112 rfl w) ?_
              refine g_callV (na := 2) X (c_MD_throwing B0 hm ⟨by omega, by omega⟩ ⟨by omega, by omega⟩ (t := 1) (by decide) (r := 1) (by decide)) rfl f0 rfl ⟨⟨tw_563, tw_5⟩, ⟨by decide, by decide, by decide +kernel⟩, by decide, by decide⟩ tw_560 tw_562 ts_MD_throwing rfl hl.1 (Nat.le_of_ble_eq_true rfl) ⟨by decide, by decide⟩ d_MD_pass_113 (fun v h_8 hp => ?_)
              obtain ⟨rfl, hm, hkT⟩ := hp
              obtain ⟨p3, p4, p6, p7, p9, p10, p11, p12, p13, p14, f0, f3, f4, f6, f7, f9, f10, f11, f12, f13, f14⟩ := id hm
              refine g_widen (k' := 0) (n' := 0) (by decide) (by decide) ?_
              show G D s0 p l e _ s m _ below meth c h_8 _ _ _ (F0 m 116 ls [.int (iZ (1))])
              refine g_if_eq (tgt := 121) X (by first | exact ⟨by omega, by omega⟩ | (split <;> exact ⟨by omega, by omega⟩) | exact cmpZ_ok _ _ | exact mul_ok (by omega) (by omega) (by omega) (by omega)) d_MD_pass_116 (by decide) (fun c116 => ?_) (fun c116 => ?_)
              · exact absurd c116 (by decide)
              · refine g_1 (fun w => lv_iconst (v := iZ 0) X.1 X.2.1 d_MD_pass_119 rfl w) ?_
                exact g_iret X (⟨1, 0, rfl, hkT, Or.inl ⟨Or.inr (Or.inr (Or.inr (cmpZ_gt.mp (by omega)))), rfl, hm⟩⟩) (by decide) (by decide) d_MD_pass_120
            · exact absurd c70 (by decide)
