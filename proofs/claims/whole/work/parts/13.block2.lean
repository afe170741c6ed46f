set_option maxHeartbeats 4000000 in
set_option maxRecDepth 100000 in
theorem c_BK_takeNothing {D : va_G} {s0 : State} {l : Launch} {h : gH} (B0 : gB D s0) {a : Nat} {b : Blk} (hb : isBk D h a b) (ho : okB b) : gMet D s0 l y_BK_takeNothing b_BK_takeNothing 1 none ({ frames := 0, cells := 0, slots := 0, locals := 0 } : Room) [.ref a] h (fun v h' => none = v ∧ isBk D h' a (bB b, bG b, bC b, bP b, bS b, 0, 0) ∧ kp (P_Bk a) h h') := by
  obtain ⟨p1, p2, p3, fA, fB, fG, fC⟩ := id hb
  obtain ⟨k1, k2, k3, k4, k5, k6, k7, k8⟩ := id ho
  refine g_enter B0 (plainFor_of_name (by decide)) (Nat.le_of_ble_eq_true rfl) (fun p e s m below meth c ls X hnm hl => ?_)
  have hl : lv_has ls 1 [(0, .ref a)] := hl
  refine g_1 (fun w => lv_aload_n X.1 X.2.1 d_BK_takeNothing_0 rfl (lv_at hl 0 rfl) w) ?_
  refine g_1 (fun w => lv_iconst (v := iZ 0) X.1 X.2.1 d_BK_takeNothing_1 rfl w) ?_
  refine g_put X (ci := 1) rfl fA (Nat.succ_ne_zero _) 6 (by decide) ⟨rfl, rfl⟩ tw_200 (Or.inl rfl) rfl rfl rfl (Nat.le_of_ble_eq_true rfl) d_BK_takeNothing_2 ?_
  obtain ⟨h_1, eh_1⟩ : ∃ z, z = g_up h a ((1, 0), .inr (1, [.ref p1, .ref p2, .ref p3, .int (iZ (bP b)), .int (iZ (bS b)), .int (iZ (bT b)), .int (iZ (0))])) := ⟨_, rfl⟩
  refine g_h (h' := h_1) eh_1.symm ?_
  have f_2 : h_1 a = some ((1, 0), .inr (1, [.ref p1, .ref p2, .ref p3, .int (iZ (bP b)), .int (iZ (bS b)), .int (iZ (bT b)), .int (iZ (0))])) := by rw [eh_1]; exact g_us
  have f_3 : h_1 p1 = some ((11, a), gI D 121 (bB b)) := by rw [eh_1]; exact g_uk fB fA (show (11 : Nat) ≠ 1 by decide)
  have f_4 : h_1 p2 = some ((12, a), gL D 121 (bG b)) := by rw [eh_1]; exact g_uk fG fA (show (12 : Nat) ≠ 1 by decide)
  have f_5 : h_1 p3 = some ((13, a), gI D 121 (fun j => ((bC b j : Nat) : Int))) := by rw [eh_1]; exact g_uk fC fA (show (13 : Nat) ≠ 1 by decide)
  have hk_6 := kp_up (kp_rf (P := P_Bk a) (h := h)) eh_1 fA (Or.inl rfl)
  refine g_1 (fun w => lv_aload_n X.1 X.2.1 d_BK_takeNothing_5 rfl (lv_at hl 0 rfl) w) ?_
  refine g_1 (fun w => lv_iconst (v := iZ 0) X.1 X.2.1 d_BK_takeNothing_6 rfl w) ?_
  refine g_put X (ci := 1) rfl f_2 (Nat.succ_ne_zero _) 5 (by decide) ⟨rfl, rfl⟩ tw_199 (Or.inl rfl) rfl rfl rfl (Nat.le_of_ble_eq_true rfl) d_BK_takeNothing_7 ?_
  obtain ⟨h_7, eh_7⟩ : ∃ z, z = g_up h_1 a ((1, 0), .inr (1, [.ref p1, .ref p2, .ref p3, .int (iZ (bP b)), .int (iZ (bS b)), .int (iZ (0)), .int (iZ (0))])) := ⟨_, rfl⟩
  refine g_h (h' := h_7) eh_7.symm ?_
  have f_8 : h_7 a = some ((1, 0), .inr (1, [.ref p1, .ref p2, .ref p3, .int (iZ (bP b)), .int (iZ (bS b)), .int (iZ (0)), .int (iZ (0))])) := by rw [eh_7]; exact g_us
  have f_9 : h_7 p1 = some ((11, a), gI D 121 (bB b)) := by rw [eh_7]; exact g_uk f_3 f_2 (show (11 : Nat) ≠ 1 by decide)
  have f_10 : h_7 p2 = some ((12, a), gL D 121 (bG b)) := by rw [eh_7]; exact g_uk f_4 f_2 (show (12 : Nat) ≠ 1 by decide)
  have f_11 : h_7 p3 = some ((13, a), gI D 121 (fun j => ((bC b j : Nat) : Int))) := by rw [eh_7]; exact g_uk f_5 f_2 (show (13 : Nat) ≠ 1 by decide)
  have hk_12 := kp_up (hk_6) eh_7 f_2 (Or.inl rfl)
  exact g_vret X (⟨rfl, ⟨p1, p2, p3, f_8, f_9, f_10, f_11⟩, hk_12⟩) (by decide) (by decide) d_BK_takeNothing_10

set_option maxHeartbeats 4000000 in
set_option maxRecDepth 100000 in
theorem c_BK_takeEverything {D : va_G} {s0 : State} {l : Launch} {h : gH} (B0 : gB D s0) {a : Nat} {b : Blk} (hb : isBk D h a b) (ho : okB b) : gMet D s0 l y_BK_takeEverything b_BK_takeEverything 1 none ({ frames := 0, cells := 0, slots := 0, locals := 0 } : Room) [.ref a] h (fun v h' => none = v ∧ isBk D h' a (bB b, bG b, bC b, bP b, bS b, bS b, bP b) ∧ kp (P_Bk a) h h') := by
  obtain ⟨p1, p2, p3, fA, fB, fG, fC⟩ := id hb
  obtain ⟨k1, k2, k3, k4, k5, k6, k7, k8⟩ := id ho
  refine g_enter B0 (plainFor_of_name (by decide)) (Nat.le_of_ble_eq_true rfl) (fun p e s m below meth c ls X hnm hl => ?_)
  have hl : lv_has ls 1 [(0, .ref a)] := hl
  refine g_1 (fun w => lv_aload_n X.1 X.2.1 d_BK_takeEverything_0 rfl (lv_at hl 0 rfl) w) ?_
  refine g_1 (fun w => lv_aload_n X.1 X.2.1 d_BK_takeEverything_1 rfl (lv_at hl 0 rfl) w) ?_
  refine g_get X (ci := 1) rfl fA 3 (by decide) ⟨rfl, rfl⟩ tw_195 (Or.inl rfl) rfl d_BK_takeEverything_2 ?_
  refine g_put X (ci := 1) rfl fA (Nat.succ_ne_zero _) 6 (by decide) ⟨rfl, rfl⟩ tw_200 (Or.inl rfl) rfl rfl rfl (Nat.le_of_ble_eq_true rfl) d_BK_takeEverything_5 ?_
  obtain ⟨h_1, eh_1⟩ : ∃ z, z = g_up h a ((1, 0), .inr (1, [.ref p1, .ref p2, .ref p3, .int (iZ (bP b)), .int (iZ (bS b)), .int (iZ (bT b)), .int (iZ (bP b))])) := ⟨_, rfl⟩
  refine g_h (h' := h_1) eh_1.symm ?_
  have f_2 : h_1 a = some ((1, 0), .inr (1, [.ref p1, .ref p2, .ref p3, .int (iZ (bP b)), .int (iZ (bS b)), .int (iZ (bT b)), .int (iZ (bP b))])) := by rw [eh_1]; exact g_us
  have f_3 : h_1 p1 = some ((11, a), gI D 121 (bB b)) := by rw [eh_1]; exact g_uk fB fA (show (11 : Nat) ≠ 1 by decide)
  have f_4 : h_1 p2 = some ((12, a), gL D 121 (bG b)) := by rw [eh_1]; exact g_uk fG fA (show (12 : Nat) ≠ 1 by decide)
  have f_5 : h_1 p3 = some ((13, a), gI D 121 (fun j => ((bC b j : Nat) : Int))) := by rw [eh_1]; exact g_uk fC fA (show (13 : Nat) ≠ 1 by decide)
  have hk_6 := kp_up (kp_rf (P := P_Bk a) (h := h)) eh_1 fA (Or.inl rfl)
  refine g_1 (fun w => lv_aload_n X.1 X.2.1 d_BK_takeEverything_8 rfl (lv_at hl 0 rfl) w) ?_
  refine g_1 (fun w => lv_aload_n X.1 X.2.1 d_BK_takeEverything_9 rfl (lv_at hl 0 rfl) w) ?_
  refine g_get X (ci := 1) rfl f_2 4 (by decide) ⟨rfl, rfl⟩ tw_197 (Or.inl rfl) rfl d_BK_takeEverything_10 ?_
  refine g_put X (ci := 1) rfl f_2 (Nat.succ_ne_zero _) 5 (by decide) ⟨rfl, rfl⟩ tw_199 (Or.inl rfl) rfl rfl rfl (Nat.le_of_ble_eq_true rfl) d_BK_takeEverything_13 ?_
  obtain ⟨h_7, eh_7⟩ : ∃ z, z = g_up h_1 a ((1, 0), .inr (1, [.ref p1, .ref p2, .ref p3, .int (iZ (bP b)), .int (iZ (bS b)), .int (iZ (bS b)), .int (iZ (bP b))])) := ⟨_, rfl⟩
  refine g_h (h' := h_7) eh_7.symm ?_
  have f_8 : h_7 a = some ((1, 0), .inr (1, [.ref p1, .ref p2, .ref p3, .int (iZ (bP b)), .int (iZ (bS b)), .int (iZ (bS b)), .int (iZ (bP b))])) := by rw [eh_7]; exact g_us
  have f_9 : h_7 p1 = some ((11, a), gI D 121 (bB b)) := by rw [eh_7]; exact g_uk f_3 f_2 (show (11 : Nat) ≠ 1 by decide)
  have f_10 : h_7 p2 = some ((12, a), gL D 121 (bG b)) := by rw [eh_7]; exact g_uk f_4 f_2 (show (12 : Nat) ≠ 1 by decide)
  have f_11 : h_7 p3 = some ((13, a), gI D 121 (fun j => ((bC b j : Nat) : Int))) := by rw [eh_7]; exact g_uk f_5 f_2 (show (13 : Nat) ≠ 1 by decide)
  have hk_12 := kp_up (hk_6) eh_7 f_2 (Or.inl rfl)
  exact g_vret X (⟨rfl, ⟨p1, p2, p3, f_8, f_9, f_10, f_11⟩, hk_12⟩) (by decide) (by decide) d_BK_takeEverything_16

set_option maxHeartbeats 4000000 in
set_option maxRecDepth 100000 in
theorem c_BK_takeNext {D : va_G} {s0 : State} {l : Launch} {h : gH} (B0 : gB D s0) {a : Nat} {b : Blk} (hb : isBk D h a b) (ho : okB b) (hT : bT b < 120) : gMet D s0 l y_BK_takeNext b_BK_takeNext 1 none ({ frames := 1, cells := 0, slots := 0, locals := 21 } : Room) [.ref a] h (fun v h' => none = v ∧ isBk D h' a (bB b, bG b, bC b, bP b, bS b, bT b + 1, bC b (bT b + 1)) ∧ kp (P_Bk a) h h') := by
  obtain ⟨p1, p2, p3, fA, fB, fG, fC⟩ := id hb
  obtain ⟨k1, k2, k3, k4, k5, k6, k7, k8⟩ := id ho
  refine g_enter B0 (plainFor_of_name (by decide)) (Nat.le_of_ble_eq_true rfl) (fun p e s m below meth c ls X hnm hl => ?_)
  have hl : lv_has ls 1 [(0, .ref a)] := hl
  refine g_1 (fun w => lv_aload_n X.1 X.2.1 d_BK_takeNext_0 rfl (lv_at hl 0 rfl) w) ?_
  refine g_1 (fun w => lv_aload_n X.1 X.2.1 d_BK_takeNext_1 rfl (lv_at hl 0 rfl) w) ?_
  refine g_1 (fun w => lv_aload_n X.1 X.2.1 d_BK_takeNext_2 rfl (lv_at hl 0 rfl) w) ?_
  refine g_get X (ci := 1) rfl fA 5 (by decide) ⟨rfl, rfl⟩ tw_199 (Or.inl rfl) rfl d_BK_takeNext_3 ?_
  refine g_callV (na := 1) X (c_BK_stepEnd B0 hb ho (bT b) (by omega)) rfl fA rfl ⟨⟨tw_370, tw_12⟩, ⟨by decide, by decide, by decide +kernel⟩, by decide, by decide⟩ tw_464 tw_369 ts_BK_stepEnd rfl hl.1 (Nat.le_of_ble_eq_true rfl) ⟨by decide, by decide⟩ d_BK_takeNext_6 (fun v h' hp => ?_)
  obtain ⟨rfl, rfl⟩ := hp
  refine g_widen (k' := 0) (n' := 0) (by decide) (by decide) ?_
  show G D s0 p l e _ s m _ below meth c h _ _ _ (F0 m 9 ls [.int (iZ (bC b (bT b + 1))), .ref a])
  refine g_put X (ci := 1) rfl fA (Nat.succ_ne_zero _) 6 (by decide) ⟨rfl, rfl⟩ tw_200 (Or.inl rfl) rfl rfl rfl (Nat.le_of_ble_eq_true rfl) d_BK_takeNext_9 ?_
  obtain ⟨h_1, eh_1⟩ : ∃ z, z = g_up h a ((1, 0), .inr (1, [.ref p1, .ref p2, .ref p3, .int (iZ (bP b)), .int (iZ (bS b)), .int (iZ (bT b)), .int (iZ (bC b (bT b + 1)))])) := ⟨_, rfl⟩
  refine g_h (h' := h_1) eh_1.symm ?_
  have f_2 : h_1 a = some ((1, 0), .inr (1, [.ref p1, .ref p2, .ref p3, .int (iZ (bP b)), .int (iZ (bS b)), .int (iZ (bT b)), .int (iZ (bC b (bT b + 1)))])) := by rw [eh_1]; exact g_us
  have f_3 : h_1 p1 = some ((11, a), gI D 121 (bB b)) := by rw [eh_1]; exact g_uk fB fA (show (11 : Nat) ≠ 1 by decide)
  have f_4 : h_1 p2 = some ((12, a), gL D 121 (bG b)) := by rw [eh_1]; exact g_uk fG fA (show (12 : Nat) ≠ 1 by decide)
  have f_5 : h_1 p3 = some ((13, a), gI D 121 (fun j => ((bC b j : Nat) : Int))) := by rw [eh_1]; exact g_uk fC fA (show (13 : Nat) ≠ 1 by decide)
  have hk_6 := kp_up (kp_rf (P := P_Bk a) (h := h)) eh_1 fA (Or.inl rfl)
  refine g_1 (fun w => lv_aload_n X.1 X.2.1 d_BK_takeNext_12 rfl (lv_at hl 0 rfl) w) ?_
  refine g_1 (fun w => lv_dup X.1 X.2.1 d_BK_takeNext_13 rfl w) ?_
  refine g_get X (ci := 1) rfl f_2 5 (by decide) ⟨rfl, rfl⟩ tw_199 (Or.inl rfl) rfl d_BK_takeNext_14 ?_
  refine g_1 (fun w => lv_iconst (v := iZ 1) X.1 X.2.1 d_BK_takeNext_17 rfl w) ?_
  refine g_iadd X d_BK_takeNext_18 ?_
  refine g_put X (ci := 1) rfl f_2 (Nat.succ_ne_zero _) 5 (by decide) ⟨rfl, rfl⟩ tw_199 (Or.inl rfl) rfl rfl rfl (Nat.le_of_ble_eq_true rfl) d_BK_takeNext_19 ?_
  obtain ⟨h_7, eh_7⟩ : ∃ z, z = g_up h_1 a ((1, 0), .inr (1, [.ref p1, .ref p2, .ref p3, .int (iZ (bP b)), .int (iZ (bS b)), .int (iZ (bT b + 1)), .int (iZ (bC b (bT b + 1)))])) := ⟨_, rfl⟩
  refine g_h (h' := h_7) eh_7.symm ?_
  have f_8 : h_7 a = some ((1, 0), .inr (1, [.ref p1, .ref p2, .ref p3, .int (iZ (bP b)), .int (iZ (bS b)), .int (iZ (bT b + 1)), .int (iZ (bC b (bT b + 1)))])) := by rw [eh_7]; exact g_us
  have f_9 : h_7 p1 = some ((11, a), gI D 121 (bB b)) := by rw [eh_7]; exact g_uk f_3 f_2 (show (11 : Nat) ≠ 1 by decide)
  have f_10 : h_7 p2 = some ((12, a), gL D 121 (bG b)) := by rw [eh_7]; exact g_uk f_4 f_2 (show (12 : Nat) ≠ 1 by decide)
  have f_11 : h_7 p3 = some ((13, a), gI D 121 (fun j => ((bC b j : Nat) : Int))) := by rw [eh_7]; exact g_uk f_5 f_2 (show (13 : Nat) ≠ 1 by decide)
  have hk_12 := kp_up (hk_6) eh_7 f_2 (Or.inl rfl)
  exact g_vret X (⟨rfl, ⟨p1, p2, p3, f_8, f_9, f_10, f_11⟩, hk_12⟩) (by decide) (by decide) d_BK_takeNext_22

set_option maxHeartbeats 4000000 in
set_option maxRecDepth 100000 in
theorem c_BK_nextBytes {D : va_G} {s0 : State} {l : Launch} {h : gH} (B0 : gB D s0) {a : Nat} {b : Blk} (hb : isBk D h a b) (ho : okB b) (hT : bT b < 120) : gMet D s0 l y_BK_nextBytes b_BK_nextBytes 1 (some .int) ({ frames := 1, cells := 0, slots := 0, locals := 21 } : Room) [.ref a] h (fun v h' => some (.int (iZ (bB b (bC b (bT b + 1)) - bB b (bC b (bT b))))) = v ∧ h = h') := by
  obtain ⟨p1, p2, p3, fA, fB, fG, fC⟩ := id hb
  obtain ⟨k1, k2, k3, k4, k5, k6, k7, k8⟩ := id ho
  refine g_enter B0 (plainFor_of_name (by decide)) (Nat.le_of_ble_eq_true rfl) (fun p e s m below meth c ls X hnm hl => ?_)
  have hl : lv_has ls 1 [(0, .ref a)] := hl
  refine g_1 (fun w => lv_aload_n X.1 X.2.1 d_BK_nextBytes_0 rfl (lv_at hl 0 rfl) w) ?_
  refine g_1 (fun w => lv_aload_n X.1 X.2.1 d_BK_nextBytes_1 rfl (lv_at hl 0 rfl) w) ?_
  refine g_get X (ci := 1) rfl fA 5 (by decide) ⟨rfl, rfl⟩ tw_199 (Or.inl rfl) rfl d_BK_nextBytes_2 ?_
  refine g_callV (na := 1) X (c_BK_stepBytes B0 hb ho (bT b) (by omega)) rfl fA rfl ⟨⟨tw_331, tw_12⟩, ⟨by decide, by decide, by decide +kernel⟩, by decide, by decide⟩ tw_328 tw_330 ts_BK_stepBytes rfl hl.1 (Nat.le_of_ble_eq_true rfl) ⟨by decide, by decide⟩ d_BK_nextBytes_5 (fun v h' hp => ?_)
  obtain ⟨rfl, rfl⟩ := hp
  refine g_widen (k' := 0) (n' := 0) (by decide) (by decide) ?_
  show G D s0 p l e _ s m _ below meth c h _ _ _ (F0 m 8 ls [.int (iZ (bB b (bC b (bT b + 1)) - bB b (bC b (bT b))))])
  exact g_iret X (⟨rfl, rfl⟩) (by decide) (by decide) d_BK_nextBytes_8

set_option maxHeartbeats 4000000 in
set_option maxRecDepth 100000 in
theorem c_BK_nextGain {D : va_G} {s0 : State} {l : Launch} {h : gH} (B0 : gB D s0) {a : Nat} {b : Blk} (hb : isBk D h a b) (ho : okB b) (hT : bT b < 120) : gMet D s0 l y_BK_nextGain b_BK_nextGain 1 (some .long) ({ frames := 1, cells := 0, slots := 0, locals := 21 } : Room) [.ref a] h (fun v h' => some (.long (lZ (bG b (bC b (bT b + 1)) - bG b (bC b (bT b))))) = v ∧ h = h') := by
  obtain ⟨p1, p2, p3, fA, fB, fG, fC⟩ := id hb
  obtain ⟨k1, k2, k3, k4, k5, k6, k7, k8⟩ := id ho
  refine g_enter B0 (plainFor_of_name (by decide)) (Nat.le_of_ble_eq_true rfl) (fun p e s m below meth c ls X hnm hl => ?_)
  have hl : lv_has ls 1 [(0, .ref a)] := hl
  refine g_1 (fun w => lv_aload_n X.1 X.2.1 d_BK_nextGain_0 rfl (lv_at hl 0 rfl) w) ?_
  refine g_1 (fun w => lv_aload_n X.1 X.2.1 d_BK_nextGain_1 rfl (lv_at hl 0 rfl) w) ?_
  refine g_get X (ci := 1) rfl fA 5 (by decide) ⟨rfl, rfl⟩ tw_199 (Or.inl rfl) rfl d_BK_nextGain_2 ?_
  refine g_callV (na := 1) X (c_BK_stepGain B0 hb ho (bT b) (by omega)) rfl fA rfl ⟨⟨tw_327, tw_12⟩, ⟨by decide, by decide, by decide +kernel⟩, by decide, by decide⟩ tw_324 tw_326 ts_BK_stepGain rfl hl.1 (Nat.le_of_ble_eq_true rfl) ⟨by decide, by decide⟩ d_BK_nextGain_5 (fun v h' hp => ?_)
  obtain ⟨rfl, rfl⟩ := hp
  refine g_widen (k' := 0) (n' := 0) (by decide) (by decide) ?_
  show G D s0 p l e _ s m _ below meth c h _ _ _ (F0 m 8 ls [.long (lZ (bG b (bC b (bT b + 1)) - bG b (bC b (bT b))))])
  exact g_lret X (⟨rfl, rfl⟩) (by decide) (by decide) d_BK_nextGain_8

set_option maxHeartbeats 4000000 in
set_option maxRecDepth 100000 in
theorem c_BK_nextHasSlope {D : va_G} {s0 : State} {l : Launch} {h : gH} (B0 : gB D s0) {a : Nat} {b : Blk} (hb : isBk D h a b) (ho : okB b) {sg sb : Int} (hg1 : -65970697666560 ≤ sg) (hg2 : sg ≤ 65970697666560) (hb1 : 0 ≤ sb) (hb2 : sb ≤ 65535) (hmo : bT b < bS b → bB b (bC b (bT b)) ≤ bB b (bC b (bT b + 1))) : gMet D s0 l y_BK_nextHasSlope b_BK_nextHasSlope 4 (some .boolean) ({ frames := 2, cells := 0, slots := 0, locals := 48 } : Room) [.ref a, .long (lZ (sg)), .int (iZ (sb))] h (fun v h' => some (.int (iZ (if bT b < bS b ∧ cmpZ ((bG b (bC b (bT b + 1)) - bG b (bC b (bT b))) * sb) (sg * (bB b (bC b (bT b + 1)) - bB b (bC b (bT b)))) = 0 then 1 else 0))) = v ∧ h = h') := by
  obtain ⟨p1, p2, p3, fA, fB, fG, fC⟩ := id hb
  obtain ⟨k1, k2, k3, k4, k5, k6, k7, k8⟩ := id ho
  have q1 := k6 (bC b (bT b + 1))
  have q2 := k6 (bC b (bT b))
  have q3 := k7 (bC b (bT b + 1))
  have q4 := k7 (bC b (bT b))
  have q5 : bT b < bS b → bB b (bC b (bT b)) ≤ bB b (bC b (bT b + 1)) := fun z => hmo z
  refine g_enter B0 (plainFor_of_name (by decide)) (Nat.le_of_ble_eq_true rfl) (fun p e s m below meth c ls X hnm hl => ?_)
  have hl : lv_has ls 4 [(0, .ref a), (1, .long (lZ (sg))), (3, .int (iZ (sb)))] := hl
  refine g_1 (fun w => lv_aload_n X.1 X.2.1 d_BK_nextHasSlope_0 rfl (lv_at hl 0 rfl) w) ?_
  refine g_callV (na := 0) X (c_BK_hasNext B0 hb ho) rfl fA rfl ⟨⟨tw_435, tw_12⟩, ⟨by decide, by decide, by decide +kernel⟩, by decide, by decide⟩ tw_453 tw_434 ts_BK_hasNext rfl hl.1 (Nat.le_of_ble_eq_true rfl) ⟨by decide, by decide⟩ d_BK_nextHasSlope_1 (fun v h' hp => ?_)
  obtain ⟨rfl, rfl⟩ := hp
  refine g_widen (k' := 0) (n' := 0) (by decide) (by decide) ?_
  show G D s0 p l e _ s m _ below meth c h _ _ _ (F0 m 4 ls [.int (iZ (if bT b < bS b then 1 else 0))])
  refine g_if_eq (tgt := 27) X (by first | exact cmpZ_ok _ _ | (split <;> exact ⟨by omega, by omega⟩)) d_BK_nextHasSlope_4 (by decide) (fun c4 => ?_) (fun c4 => ?_)
  · refine g_1 (fun w => lv_iconst (v := iZ 0) X.1 X.2.1 d_BK_nextHasSlope_27 rfl w) ?_
    exact g_zret X rfl (⟨g_ei (by first | (rw [if_pos (by omega)]; done) | (rw [if_neg (by omega)]; done) | (split <;> omega)), rfl⟩) (by decide) (by decide) d_BK_nextHasSlope_28
  · have c4 : bT b < bS b := by
      rcases Nat.lt_or_ge (bT b) (bS b) with z | z
      · exact z
      · rw [if_neg (by omega)] at c4; exact absurd rfl c4
    have q6 := q5 c4
    refine g_1 (fun w => lv_aload_n X.1 X.2.1 d_BK_nextHasSlope_7 rfl (lv_at hl 0 rfl) w) ?_
    refine g_callV (na := 0) X (c_BK_nextGain B0 hb ho (by omega)) rfl fA rfl ⟨⟨tw_439, tw_12⟩, ⟨by decide, by decide, by decide +kernel⟩, by decide, by decide⟩ tw_454 tw_438 ts_BK_nextGain rfl hl.1 (Nat.le_of_ble_eq_true rfl) ⟨by decide, by decide⟩ d_BK_nextHasSlope_8 (fun v h' hp => ?_)
    obtain ⟨rfl, rfl⟩ := hp
    refine g_widen (k' := 0) (n' := 0) (by decide) (by decide) ?_
    show G D s0 p l e _ s m _ below meth c h _ _ _ (F0 m 11 ls [.long (lZ (bG b (bC b (bT b + 1)) - bG b (bC b (bT b))))])
    refine g_1 (fun w => lv_aload_n X.1 X.2.1 d_BK_nextHasSlope_11 rfl (lv_at hl 0 rfl) w) ?_
    refine g_callV (na := 0) X (c_BK_nextBytes B0 hb ho (by omega)) rfl fA rfl ⟨⟨tw_443, tw_12⟩, ⟨by decide, by decide, by decide +kernel⟩, by decide, by decide⟩ tw_455 tw_442 ts_BK_nextBytes rfl hl.1 (Nat.le_of_ble_eq_true rfl) ⟨by decide, by decide⟩ d_BK_nextHasSlope_12 (fun v h' hp => ?_)
    obtain ⟨rfl, rfl⟩ := hp
    refine g_widen (k' := 0) (n' := 0) (by decide) (by decide) ?_
    show G D s0 p l e _ s m _ below meth c h _ _ _ (F0 m 15 ls [.int (iZ (bB b (bC b (bT b + 1)) - bB b (bC b (bT b)))), .long (lZ (bG b (bC b (bT b + 1)) - bG b (bC b (bT b))))])
    refine g_1 (fun w => lv_lload_n X.1 X.2.1 d_BK_nextHasSlope_15 rfl (lv_at hl 1 rfl) w) ?_
    refine g_1 (fun w => lv_iload_n X.1 X.2.1 d_BK_nextHasSlope_16 rfl (lv_at hl 2 rfl) w) ?_
    refine g_callSN (na := 4) X (c_LB_compareSlopes B0 ⟨by omega, by omega⟩ ⟨by omega, by omega⟩ (mul_ok (by omega) (by omega) (by omega) (by omega)) (mul_ok (by omega) (by omega) (by omega) (by omega))) rfl ⟨⟨tw_334, tw_1⟩, ⟨by decide, by decide, by decide +kernel⟩, by decide, by decide⟩ tw_332 tw_333 rfl hl.1 (Nat.le_of_ble_eq_true rfl) ⟨by decide, by decide⟩ d_BK_nextHasSlope_17 (fun v h' hp => ?_)
    obtain ⟨rfl, rfl⟩ := hp
    refine g_widen (k' := 0) (n' := 0) (by decide) (by decide) ?_
    show G D s0 p l e _ s m _ below meth c h _ _ _ (F0 m 20 ls [.int (iZ (cmpZ ((bG b (bC b (bT b + 1)) - bG b (bC b (bT b))) * sb) (sg * (bB b (bC b (bT b + 1)) - bB b (bC b (bT b))))))])
    refine g_if_ne (tgt := 27) X (cmpZ_ok _ _) d_BK_nextHasSlope_20 (by decide) (fun c20 => ?_) (fun c20 => ?_)
    · refine g_1 (fun w => lv_iconst (v := iZ 0) X.1 X.2.1 d_BK_nextHasSlope_27 rfl w) ?_
      exact g_zret X rfl (⟨g_ei (by first | (rw [if_pos (by omega)]; done) | (rw [if_neg (by omega)]; done) | (split <;> omega)), rfl⟩) (by decide) (by decide) d_BK_nextHasSlope_28
    · refine g_1 (fun w => lv_iconst (v := iZ 1) X.1 X.2.1 d_BK_nextHasSlope_23 rfl w) ?_
      refine g_goto (tgt := 28) X d_BK_nextHasSlope_24 (by decide) ?_
      exact g_zret X rfl (⟨g_ei (by first | (rw [if_pos (by omega)]; done) | (rw [if_neg (by omega)]; done) | (split <;> omega)), rfl⟩) (by decide) (by decide) d_BK_nextHasSlope_28
