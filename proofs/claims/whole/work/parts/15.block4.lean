set_option maxHeartbeats 4000000 in
set_option maxRecDepth 100000 in
theorem c_BK_append {D : va_G} {s0 : State} {l : Launch} {h : gH} (B0 : gB D s0) {a : Nat} {b : Blk} (hb : isBk D h a b) (ho : okB b) {n g : Int} (hP : bP b < 120) (ho2 : okB (grown b n g)) (hm2 : ∀ i, i < bS b → bB (grown b n g) (bC b i) ≤ bB (grown b n g) (bC b (i + 1)) ∧ bB (grown b n g) (bC b i) ≤ bB (grown b n g) (bP b + 1)) : gMet D s0 l y_BK_append b_BK_append 4 none ({ frames := 4, cells := 0, slots := 0, locals := 94 } : Room) [.ref a, .int (iZ (n)), .long (lZ (g))] h (fun v h' => none = v ∧ isBk D h' a (renew (grown b n g)) ∧ kp (P_Bk a) h h') := by
  obtain ⟨p1, p2, p3, fA, fB, fG, fC⟩ := id hb
  obtain ⟨k1, k2, k3, k4, k5, k6, k7, k8⟩ := id ho
  refine g_enter B0 (plainFor_of_name (by decide)) (Nat.le_of_ble_eq_true rfl) (fun p e s m below meth c ls X hnm hl => ?_)
  have hl : lv_has ls 4 [(0, .ref a), (1, .int (iZ (n))), (2, .long (lZ (g)))] := hl
  refine g_1 (fun w => lv_aload_n X.1 X.2.1 d_BK_append_0 rfl (lv_at hl 0 rfl) w) ?_
  refine g_get X (ci := 1) rfl fA 0 (by decide) ⟨rfl, rfl⟩ tw_192 (Or.inl rfl) rfl d_BK_append_1 ?_
  refine g_1 (fun w => lv_aload_n X.1 X.2.1 d_BK_append_4 rfl (lv_at hl 0 rfl) w) ?_
  refine g_get X (ci := 1) rfl fA 3 (by decide) ⟨rfl, rfl⟩ tw_195 (Or.inl rfl) rfl d_BK_append_5 ?_
  refine g_1 (fun w => lv_iconst (v := iZ 1) X.1 X.2.1 d_BK_append_8 rfl w) ?_
  refine g_iadd X d_BK_append_9 ?_
  refine g_1 (fun w => lv_aload_n X.1 X.2.1 d_BK_append_10 rfl (lv_at hl 0 rfl) w) ?_
  refine g_get X (ci := 1) rfl fA 0 (by decide) ⟨rfl, rfl⟩ tw_192 (Or.inl rfl) rfl d_BK_append_11 ?_
  refine g_1 (fun w => lv_aload_n X.1 X.2.1 d_BK_append_14 rfl (lv_at hl 0 rfl) w) ?_
  refine g_get X (ci := 1) rfl fA 3 (by decide) ⟨rfl, rfl⟩ tw_195 (Or.inl rfl) rfl d_BK_append_15 ?_
  refine g_ild X fB (bP b) (rfl) (by omega) (by omega) d_BK_append_18 ?_
  refine g_1 (fun w => lv_iload_n X.1 X.2.1 d_BK_append_19 rfl (lv_at hl 1 rfl) w) ?_
  refine g_iadd X d_BK_append_20 ?_
  refine g_ist X fB (Nat.succ_ne_zero _) (bP b + 1) (by omega) (by omega) (by omega) d_BK_append_21 ?_
  obtain ⟨h_1, eh_1⟩ : ∃ z, z = g_up h p1 ((11, a), gI D 121 (va_up (bB b) (bP b + 1) (bB b (bP b) + n))) := ⟨_, rfl⟩
  refine g_h (h' := h_1) eh_1.symm ?_
  have f_2 : h_1 a = some ((1, 0), .inr (1, [.ref p1, .ref p2, .ref p3, .int (iZ (bP b)), .int (iZ (bS b)), .int (iZ (bT b)), .int (iZ (bL b))])) := by rw [eh_1]; exact g_uk fA fB (show (1 : Nat) ≠ 11 by decide)
  have f_3 : h_1 p1 = some ((11, a), gI D 121 (va_up (bB b) (bP b + 1) (bB b (bP b) + n))) := by rw [eh_1]; exact g_us
  have f_4 : h_1 p2 = some ((12, a), gL D 121 (bG b)) := by rw [eh_1]; exact g_uk fG fB (show (12 : Nat) ≠ 11 by decide)
  have f_5 : h_1 p3 = some ((13, a), gI D 121 (fun j => ((bC b j : Nat) : Int))) := by rw [eh_1]; exact g_uk fC fB (show (13 : Nat) ≠ 11 by decide)
  have hk_6 := kp_up (kp_rf (P := P_Bk a) (h := h)) eh_1 fB (Or.inr ⟨rfl, Nat.le_of_ble_eq_true rfl, Nat.le_of_ble_eq_true rfl⟩)
  refine g_1 (fun w => lv_aload_n X.1 X.2.1 d_BK_append_22 rfl (lv_at hl 0 rfl) w) ?_
  refine g_get X (ci := 1) rfl f_2 1 (by decide) ⟨rfl, rfl⟩ tw_193 (Or.inl rfl) rfl d_BK_append_23 ?_
  refine g_1 (fun w => lv_aload_n X.1 X.2.1 d_BK_append_26 rfl (lv_at hl 0 rfl) w) ?_
  refine g_get X (ci := 1) rfl f_2 3 (by decide) ⟨rfl, rfl⟩ tw_195 (Or.inl rfl) rfl d_BK_append_27 ?_
  refine g_1 (fun w => lv_iconst (v := iZ 1) X.1 X.2.1 d_BK_append_30 rfl w) ?_
  refine g_iadd X d_BK_append_31 ?_
  refine g_1 (fun w => lv_aload_n X.1 X.2.1 d_BK_append_32 rfl (lv_at hl 0 rfl) w) ?_
  refine g_get X (ci := 1) rfl f_2 1 (by decide) ⟨rfl, rfl⟩ tw_193 (Or.inl rfl) rfl d_BK_append_33 ?_
  refine g_1 (fun w => lv_aload_n X.1 X.2.1 d_BK_append_36 rfl (lv_at hl 0 rfl) w) ?_
  refine g_get X (ci := 1) rfl f_2 3 (by decide) ⟨rfl, rfl⟩ tw_195 (Or.inl rfl) rfl d_BK_append_37 ?_
  refine g_lld X f_4 (bP b) (rfl) (by omega) (by omega) d_BK_append_40 ?_
  refine g_1 (fun w => lv_lload_n X.1 X.2.1 d_BK_append_41 rfl (lv_at hl 2 rfl) w) ?_
  refine g_ladd X d_BK_append_42 ?_
  refine g_lst X f_4 (Nat.succ_ne_zero _) (bP b + 1) (by omega) (by omega) (by omega) d_BK_append_43 ?_
  obtain ⟨h_7, eh_7⟩ : ∃ z, z = g_up h_1 p2 ((12, a), gL D 121 (va_up (bG b) (bP b + 1) (bG b (bP b) + g))) := ⟨_, rfl⟩
  refine g_h (h' := h_7) eh_7.symm ?_
  have f_8 : h_7 a = some ((1, 0), .inr (1, [.ref p1, .ref p2, .ref p3, .int (iZ (bP b)), .int (iZ (bS b)), .int (iZ (bT b)), .int (iZ (bL b))])) := by rw [eh_7]; exact g_uk f_2 f_4 (show (1 : Nat) ≠ 12 by decide)
  have f_9 : h_7 p1 = some ((11, a), gI D 121 (va_up (bB b) (bP b + 1) (bB b (bP b) + n))) := by rw [eh_7]; exact g_uk f_3 f_4 (show (11 : Nat) ≠ 12 by decide)
  have f_10 : h_7 p2 = some ((12, a), gL D 121 (va_up (bG b) (bP b + 1) (bG b (bP b) + g))) := by rw [eh_7]; exact g_us
  have f_11 : h_7 p3 = some ((13, a), gI D 121 (fun j => ((bC b j : Nat) : Int))) := by rw [eh_7]; exact g_uk f_5 f_4 (show (13 : Nat) ≠ 12 by decide)
  have hk_12 := kp_up (hk_6) eh_7 f_4 (Or.inr ⟨rfl, Nat.le_of_ble_eq_true rfl, Nat.le_of_ble_eq_true rfl⟩)
  refine g_1 (fun w => lv_aload_n X.1 X.2.1 d_BK_append_44 rfl (lv_at hl 0 rfl) w) ?_
  refine g_1 (fun w => lv_dup X.1 X.2.1 d_BK_append_45 rfl w) ?_
  refine g_get X (ci := 1) rfl f_8 3 (by decide) ⟨rfl, rfl⟩ tw_195 (Or.inl rfl) rfl d_BK_append_46 ?_
  refine g_1 (fun w => lv_iconst (v := iZ 1) X.1 X.2.1 d_BK_append_49 rfl w) ?_
  refine g_iadd X d_BK_append_50 ?_
  refine g_put X (ci := 1) rfl f_8 (Nat.succ_ne_zero _) 3 (by decide) ⟨rfl, rfl⟩ tw_195 (Or.inl rfl) rfl rfl rfl (Nat.le_of_ble_eq_true rfl) d_BK_append_51 ?_
  obtain ⟨h_13, eh_13⟩ : ∃ z, z = g_up h_7 a ((1, 0), .inr (1, [.ref p1, .ref p2, .ref p3, .int (iZ (bP b + 1)), .int (iZ (bS b)), .int (iZ (bT b)), .int (iZ (bL b))])) := ⟨_, rfl⟩
  refine g_h (h' := h_13) eh_13.symm ?_
  have f_14 : h_13 a = some ((1, 0), .inr (1, [.ref p1, .ref p2, .ref p3, .int (iZ (bP b + 1)), .int (iZ (bS b)), .int (iZ (bT b)), .int (iZ (bL b))])) := by rw [eh_13]; exact g_us
  have f_15 : h_13 p1 = some ((11, a), gI D 121 (va_up (bB b) (bP b + 1) (bB b (bP b) + n))) := by rw [eh_13]; exact g_uk f_9 f_8 (show (11 : Nat) ≠ 1 by decide)
  have f_16 : h_13 p2 = some ((12, a), gL D 121 (va_up (bG b) (bP b + 1) (bG b (bP b) + g))) := by rw [eh_13]; exact g_uk f_10 f_8 (show (12 : Nat) ≠ 1 by decide)
  have f_17 : h_13 p3 = some ((13, a), gI D 121 (fun j => ((bC b j : Nat) : Int))) := by rw [eh_13]; exact g_uk f_11 f_8 (show (13 : Nat) ≠ 1 by decide)
  have hk_18 := kp_up (hk_12) eh_13 f_8 (Or.inl rfl)
  refine g_1 (fun w => lv_aload_n X.1 X.2.1 d_BK_append_54 rfl (lv_at hl 0 rfl) w) ?_
  refine g_callV (na := 0) X (c_BK_renewSteps (b := grown b n g) B0 ⟨p1, p2, p3, f_14, f_15, f_16, f_17⟩ ho2 (by show bS b < bP b + 1; omega) hm2) rfl f_14 rfl ⟨⟨tw_319, tw_12⟩, ⟨by decide, by decide, by decide +kernel⟩, by decide, by decide⟩ tw_316 tw_318 ts_BK_renewSteps rfl hl.1 (Nat.le_of_ble_eq_true rfl) ⟨by decide, by decide⟩ d_BK_append_55 (fun v h' hp => ?_)
  obtain ⟨rfl, hb2, hk2⟩ := hp
  have hk3 := kp_tr hk_18 hk2
  refine g_widen (k' := 0) (n' := 0) (by decide) (by decide) ?_
  show G D s0 p l e _ s m _ below meth c h' _ _ _ (F0 m 58 ls [])
  exact g_vret X (⟨rfl, hb2, hk3⟩) (by decide) (by decide) d_BK_append_58

set_option maxHeartbeats 4000000 in
set_option maxRecDepth 100000 in
theorem c_BK_init {D : va_G} {s0 : State} {l : Launch} {h : gH} (B0 : gB D s0) {a : Nat} (fA : h a = some ((1, 0), .inr (1, [.null, .null, .null, .int (iZ 0), .int (iZ 0), .int (iZ 0), .int (iZ 0)]))) : gMet D s0 l y_BK_init b_BK_init 1 none ({ frames := 1, cells := 3, slots := 363, locals := 13 } : Room) [.ref a] h (fun v h' => none = v ∧ isBk D h' a (fun _ => 0, fun _ => 0, fun _ => 0, 0, 0, 0, 0) ∧ kp (fun q t => q = a) h h') := by
  refine g_enter B0 (plainFor_of_name (by decide)) (Nat.le_of_ble_eq_true rfl) (fun p e s m below meth c ls X hnm hl => ?_)
  have hl : lv_has ls 1 [(0, .ref a)] := hl
  refine g_1 (fun w => lv_aload_n X.1 X.2.1 d_BK_init_0 rfl (lv_at hl 0 rfl) w) ?_
  refine g_obj X tw_191 hl.1 d_BK_init_1 (by decide) (by decide) ?_
  refine g_1 (fun w => lv_aload_n X.1 X.2.1 d_BK_init_4 rfl (lv_at hl 0 rfl) w) ?_
  refine g_1 (fun w => lv_bipush (v := iZ 121) X.1 X.2.1 d_BK_init_5 (by decide) w) ?_
  refine g_newi X (121) (rfl) (by omega) (fun z => (11, a)) (by decide) (by decide) d_BK_init_7 (fun na_1 hfna_1 => ?_)
  obtain ⟨h_2, eh_2⟩ : ∃ z, z = g_up h na_1 ((11, a), gI D 121 (fun _ => 0)) := ⟨_, rfl⟩
  refine g_h (h' := h_2) eh_2.symm ?_
  have f_3 : h_2 a = some ((1, 0), .inr (1, [.null, .null, .null, .int (iZ (0)), .int (iZ (0)), .int (iZ (0)), .int (iZ (0))])) := by rw [eh_2]; exact g_uf fA hfna_1
  have f_4 : h_2 na_1 = some ((11, a), gI D 121 (fun _ => 0)) := by rw [eh_2]; exact g_us
  have hk_5 := kp_new (kp_rf (P := (fun q t => q = a)) (h := h)) eh_2 hfna_1
  refine g_putF X hnm (ci := 1) rfl f_3 (Nat.succ_ne_zero _) 0 (by decide) ⟨rfl, rfl⟩ rfl tw_192 rfl rfl rfl (Nat.le_of_ble_eq_true rfl) d_BK_init_9 ?_
  obtain ⟨h_6, eh_6⟩ : ∃ z, z = g_up h_2 a ((1, 0), .inr (1, [.ref na_1, .null, .null, .int (iZ (0)), .int (iZ (0)), .int (iZ (0)), .int (iZ (0))])) := ⟨_, rfl⟩
  refine g_h (h' := h_6) eh_6.symm ?_
  have f_7 : h_6 a = some ((1, 0), .inr (1, [.ref na_1, .null, .null, .int (iZ (0)), .int (iZ (0)), .int (iZ (0)), .int (iZ (0))])) := by rw [eh_6]; exact g_us
  have f_8 : h_6 na_1 = some ((11, a), gI D 121 (fun _ => 0)) := by rw [eh_6]; exact g_uk f_4 f_3 (show (11 : Nat) ≠ 1 by decide)
  have hk_9 := kp_up (hk_5) eh_6 f_3 (rfl)
  refine g_1 (fun w => lv_aload_n X.1 X.2.1 d_BK_init_12 rfl (lv_at hl 0 rfl) w) ?_
  refine g_1 (fun w => lv_bipush (v := iZ 121) X.1 X.2.1 d_BK_init_13 (by decide) w) ?_
  refine g_newl X (121) (rfl) (by omega) (fun z => (12, a)) (by decide) (by decide) d_BK_init_15 (fun na_10 hfna_10 => ?_)
  obtain ⟨h_11, eh_11⟩ : ∃ z, z = g_up h_6 na_10 ((12, a), gL D 121 (fun _ => 0)) := ⟨_, rfl⟩
  refine g_h (h' := h_11) eh_11.symm ?_
  have f_12 : h_11 a = some ((1, 0), .inr (1, [.ref na_1, .null, .null, .int (iZ (0)), .int (iZ (0)), .int (iZ (0)), .int (iZ (0))])) := by rw [eh_11]; exact g_uf f_7 hfna_10
  have f_13 : h_11 na_1 = some ((11, a), gI D 121 (fun _ => 0)) := by rw [eh_11]; exact g_uf f_8 hfna_10
  have f_14 : h_11 na_10 = some ((12, a), gL D 121 (fun _ => 0)) := by rw [eh_11]; exact g_us
  have hk_15 := kp_new (hk_9) eh_11 hfna_10
  refine g_putF X hnm (ci := 1) rfl f_12 (Nat.succ_ne_zero _) 1 (by decide) ⟨rfl, rfl⟩ rfl tw_193 rfl rfl rfl (Nat.le_of_ble_eq_true rfl) d_BK_init_17 ?_
  obtain ⟨h_16, eh_16⟩ : ∃ z, z = g_up h_11 a ((1, 0), .inr (1, [.ref na_1, .ref na_10, .null, .int (iZ (0)), .int (iZ (0)), .int (iZ (0)), .int (iZ (0))])) := ⟨_, rfl⟩
  refine g_h (h' := h_16) eh_16.symm ?_
  have f_17 : h_16 a = some ((1, 0), .inr (1, [.ref na_1, .ref na_10, .null, .int (iZ (0)), .int (iZ (0)), .int (iZ (0)), .int (iZ (0))])) := by rw [eh_16]; exact g_us
  have f_18 : h_16 na_1 = some ((11, a), gI D 121 (fun _ => 0)) := by rw [eh_16]; exact g_uk f_13 f_12 (show (11 : Nat) ≠ 1 by decide)
  have f_19 : h_16 na_10 = some ((12, a), gL D 121 (fun _ => 0)) := by rw [eh_16]; exact g_uk f_14 f_12 (show (12 : Nat) ≠ 1 by decide)
  have hk_20 := kp_up (hk_15) eh_16 f_12 (rfl)
  refine g_1 (fun w => lv_aload_n X.1 X.2.1 d_BK_init_20 rfl (lv_at hl 0 rfl) w) ?_
  refine g_1 (fun w => lv_bipush (v := iZ 121) X.1 X.2.1 d_BK_init_21 (by decide) w) ?_
  refine g_newi X (121) (rfl) (by omega) (fun z => (13, a)) (by decide) (by decide) d_BK_init_23 (fun na_21 hfna_21 => ?_)
  obtain ⟨h_22, eh_22⟩ : ∃ z, z = g_up h_16 na_21 ((13, a), gI D 121 (fun _ => 0)) := ⟨_, rfl⟩
  refine g_h (h' := h_22) eh_22.symm ?_
  have f_23 : h_22 a = some ((1, 0), .inr (1, [.ref na_1, .ref na_10, .null, .int (iZ (0)), .int (iZ (0)), .int (iZ (0)), .int (iZ (0))])) := by rw [eh_22]; exact g_uf f_17 hfna_21
  have f_24 : h_22 na_1 = some ((11, a), gI D 121 (fun _ => 0)) := by rw [eh_22]; exact g_uf f_18 hfna_21
  have f_25 : h_22 na_10 = some ((12, a), gL D 121 (fun _ => 0)) := by rw [eh_22]; exact g_uf f_19 hfna_21
  have f_26 : h_22 na_21 = some ((13, a), gI D 121 (fun _ => 0)) := by rw [eh_22]; exact g_us
  have hk_27 := kp_new (hk_20) eh_22 hfna_21
  refine g_putF X hnm (ci := 1) rfl f_23 (Nat.succ_ne_zero _) 2 (by decide) ⟨rfl, rfl⟩ rfl tw_194 rfl rfl rfl (Nat.le_of_ble_eq_true rfl) d_BK_init_25 ?_
  obtain ⟨h_28, eh_28⟩ : ∃ z, z = g_up h_22 a ((1, 0), .inr (1, [.ref na_1, .ref na_10, .ref na_21, .int (iZ (0)), .int (iZ (0)), .int (iZ (0)), .int (iZ (0))])) := ⟨_, rfl⟩
  refine g_h (h' := h_28) eh_28.symm ?_
  have f_29 : h_28 a = some ((1, 0), .inr (1, [.ref na_1, .ref na_10, .ref na_21, .int (iZ (0)), .int (iZ (0)), .int (iZ (0)), .int (iZ (0))])) := by rw [eh_28]; exact g_us
  have f_30 : h_28 na_1 = some ((11, a), gI D 121 (fun _ => 0)) := by rw [eh_28]; exact g_uk f_24 f_23 (show (11 : Nat) ≠ 1 by decide)
  have f_31 : h_28 na_10 = some ((12, a), gL D 121 (fun _ => 0)) := by rw [eh_28]; exact g_uk f_25 f_23 (show (12 : Nat) ≠ 1 by decide)
  have f_32 : h_28 na_21 = some ((13, a), gI D 121 (fun _ => 0)) := by rw [eh_28]; exact g_uk f_26 f_23 (show (13 : Nat) ≠ 1 by decide)
  have hk_33 := kp_up (hk_27) eh_28 f_23 (rfl)
  exact g_vret X (⟨rfl, ⟨na_1, na_10, na_21, f_29, f_30, f_31, f_32⟩, hk_33⟩) (by decide) (by decide) d_BK_init_28

set_option maxHeartbeats 4000000 in
set_option maxRecDepth 100000 in
theorem c_LY_init {D : va_G} {s0 : State} {l : Launch} {h : gH} (B0 : gB D s0) {a n : Nat} (hn : n ≤ 1024) (fA : h a = some ((2, 0), .inr (2, [.null, .int (iZ 0), .long (lZ 0), .int (iZ 0)]))) : gMet D s0 l y_LY_init b_LY_init 2 none ({ frames := 1, cells := 1, slots := 1024, locals := 13 } : Room) [.ref a, .int (iZ (n))] h (fun v h' => none = v ∧ isLy D h' a (n, fun _ => 0, 0, -1, -1) ∧ kp (fun q t => q = a) h h') := by
  refine g_enter B0 (plainFor_of_name (by decide)) (Nat.le_of_ble_eq_true rfl) (fun p e s m below meth c ls X hnm hl => ?_)
  have hl : lv_has ls 2 [(0, .ref a), (1, .int (iZ (n)))] := hl
  refine g_1 (fun w => lv_aload_n X.1 X.2.1 d_LY_init_0 rfl (lv_at hl 0 rfl) w) ?_
  refine g_obj X tw_394 hl.1 d_LY_init_1 (by decide) (by decide) ?_
  refine g_1 (fun w => lv_aload_n X.1 X.2.1 d_LY_init_4 rfl (lv_at hl 0 rfl) w) ?_
  refine g_1 (fun w => lv_iload_n X.1 X.2.1 d_LY_init_5 rfl (lv_at hl 1 rfl) w) ?_
  refine g_newi X (n) (rfl) (by omega) (fun z => (15, a)) (by decide) (by show 0 + n ≤ 1024; omega) d_LY_init_6 (fun na_1 hfna_1 => ?_)
  obtain ⟨h_2, eh_2⟩ : ∃ z, z = g_up h na_1 ((15, a), gI D n (fun _ => 0)) := ⟨_, rfl⟩
  refine g_h (h' := h_2) eh_2.symm ?_
  have f_3 : h_2 a = some ((2, 0), .inr (2, [.null, .int (iZ (0)), .long (lZ (0)), .int (iZ (0))])) := by rw [eh_2]; exact g_uf fA hfna_1
  have f_4 : h_2 na_1 = some ((15, a), gI D n (fun _ => 0)) := by rw [eh_2]; exact g_us
  have hk_5 := kp_new (kp_rf (P := (fun q t => q = a)) (h := h)) eh_2 hfna_1
  refine g_putF X hnm (ci := 2) rfl f_3 (Nat.succ_ne_zero _) 0 (by decide) ⟨rfl, rfl⟩ rfl tw_396 rfl rfl rfl (Nat.le_of_ble_eq_true rfl) d_LY_init_8 ?_
  obtain ⟨h_6, eh_6⟩ : ∃ z, z = g_up h_2 a ((2, 0), .inr (2, [.ref na_1, .int (iZ (0)), .long (lZ (0)), .int (iZ (0))])) := ⟨_, rfl⟩
  refine g_h (h' := h_6) eh_6.symm ?_
  have f_7 : h_6 a = some ((2, 0), .inr (2, [.ref na_1, .int (iZ (0)), .long (lZ (0)), .int (iZ (0))])) := by rw [eh_6]; exact g_us
  have f_8 : h_6 na_1 = some ((15, a), gI D n (fun _ => 0)) := by rw [eh_6]; exact g_uk f_4 f_3 (show (15 : Nat) ≠ 2 by decide)
  have hk_9 := kp_up (hk_5) eh_6 f_3 (rfl)
  refine g_1 (fun w => lv_aload_n X.1 X.2.1 d_LY_init_11 rfl (lv_at hl 0 rfl) w) ?_
  refine g_1 (fun w => lv_ldc2 X.1 X.2.1 X.2.2.2.2.2.1 (X.w tw_395 rfl) d_LY_init_12 w) ?_
  refine g_tl (show _ = lZ (-1) by decide) ?_
  refine g_put X (ci := 2) rfl f_7 (Nat.succ_ne_zero _) 2 (by decide) ⟨rfl, rfl⟩ tw_399 (Or.inl rfl) rfl rfl rfl (Nat.le_of_ble_eq_true rfl) d_LY_init_15 ?_
  obtain ⟨h_10, eh_10⟩ : ∃ z, z = g_up h_6 a ((2, 0), .inr (2, [.ref na_1, .int (iZ (0)), .long (lZ ((-1))), .int (iZ (0))])) := ⟨_, rfl⟩
  refine g_h (h' := h_10) eh_10.symm ?_
  have f_11 : h_10 a = some ((2, 0), .inr (2, [.ref na_1, .int (iZ (0)), .long (lZ ((-1))), .int (iZ (0))])) := by rw [eh_10]; exact g_us
  have f_12 : h_10 na_1 = some ((15, a), gI D n (fun _ => 0)) := by rw [eh_10]; exact g_uk f_8 f_7 (show (15 : Nat) ≠ 2 by decide)
  have hk_13 := kp_up (hk_9) eh_10 f_7 (rfl)
  refine g_1 (fun w => lv_aload_n X.1 X.2.1 d_LY_init_18 rfl (lv_at hl 0 rfl) w) ?_
  refine g_1 (fun w => lv_iconst (v := iZ (-1)) X.1 X.2.1 d_LY_init_19 rfl w) ?_
  refine g_put X (ci := 2) rfl f_11 (Nat.succ_ne_zero _) 3 (by decide) ⟨rfl, rfl⟩ tw_401 (Or.inl rfl) rfl rfl rfl (Nat.le_of_ble_eq_true rfl) d_LY_init_20 ?_
  obtain ⟨h_14, eh_14⟩ : ∃ z, z = g_up h_10 a ((2, 0), .inr (2, [.ref na_1, .int (iZ (0)), .long (lZ ((-1))), .int (iZ ((-1)))])) := ⟨_, rfl⟩
  refine g_h (h' := h_14) eh_14.symm ?_
  have f_15 : h_14 a = some ((2, 0), .inr (2, [.ref na_1, .int (iZ (0)), .long (lZ ((-1))), .int (iZ ((-1)))])) := by rw [eh_14]; exact g_us
  have f_16 : h_14 na_1 = some ((15, a), gI D n (fun _ => 0)) := by rw [eh_14]; exact g_uk f_12 f_11 (show (15 : Nat) ≠ 2 by decide)
  have hk_17 := kp_up (hk_13) eh_14 f_11 (rfl)
  exact g_vret X (⟨rfl, ⟨na_1, f_15, f_16⟩, hk_17⟩) (by decide) (by show 0 + n ≤ 1024; omega) d_LY_init_23
