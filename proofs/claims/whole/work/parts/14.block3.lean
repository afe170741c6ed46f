set_option maxHeartbeats 4000000 in
set_option maxRecDepth 100000 in
theorem c_BK_hasRoomFor {D : va_G} {s0 : State} {l : Launch} {h : gH} (B0 : gB D s0) {a : Nat} {b : Blk} (hb : isBk D h a b) (ho : okB b) {x : Int} (hx : i_ok x) : gMet D s0 l y_BK_hasRoomFor b_BK_hasRoomFor 2 (some .boolean) ({ frames := 0, cells := 0, slots := 0, locals := 0 } : Room) [.ref a, .int (iZ (x))] h (fun v h' => some (.int (iZ (if bP b < 120 ∧ x + bB b (bP b) ≤ 65535 then 1 else 0))) = v ∧ h = h') := by
  obtain ⟨p1, p2, p3, fA, fB, fG, fC⟩ := id hb
  obtain ⟨k1, k2, k3, k4, k5, k6, k7, k8⟩ := id ho
  have q1 := k6 (bP b)
  obtain ⟨hx1, hx2⟩ := id hx
  refine g_enter B0 (plainFor_of_name (by decide)) (Nat.le_of_ble_eq_true rfl) (fun p e s m below meth c ls X hnm hl => ?_)
  have hl : lv_has ls 2 [(0, .ref a), (1, .int (iZ (x)))] := hl
  refine g_1 (fun w => lv_aload_n X.1 X.2.1 d_BK_hasRoomFor_0 rfl (lv_at hl 0 rfl) w) ?_
  refine g_get X (ci := 1) rfl fA 3 (by decide) ⟨rfl, rfl⟩ tw_195 (Or.inl rfl) rfl d_BK_hasRoomFor_1 ?_
  refine g_1 (fun w => lv_bipush (v := iZ 120) X.1 X.2.1 d_BK_hasRoomFor_4 (by decide) w) ?_
  refine g_icmp_ge (tgt := 29) X (⟨by omega, by omega⟩) (⟨by omega, by omega⟩) d_BK_hasRoomFor_6 (by decide) (fun c6 => ?_) (fun c6 => ?_)
  · refine g_1 (fun w => lv_iconst (v := iZ 0) X.1 X.2.1 d_BK_hasRoomFor_29 rfl w) ?_
    exact g_zret X rfl (⟨g_ei (by split <;> omega), rfl⟩) (by decide) (by decide) d_BK_hasRoomFor_30
  · refine g_1 (fun w => lv_iload_n X.1 X.2.1 d_BK_hasRoomFor_9 rfl (lv_at hl 1 rfl) w) ?_
    refine g_1 (fun w => lv_ldc X.1 X.2.1 X.2.2.2.2.2.1 (X.w tw_310 rfl) d_BK_hasRoomFor_10 w) ?_
    refine g_ti (show _ = iZ 65535 by decide) ?_
    refine g_1 (fun w => lv_aload_n X.1 X.2.1 d_BK_hasRoomFor_12 rfl (lv_at hl 0 rfl) w) ?_
    refine g_get X (ci := 1) rfl fA 0 (by decide) ⟨rfl, rfl⟩ tw_192 (Or.inl rfl) rfl d_BK_hasRoomFor_13 ?_
    refine g_1 (fun w => lv_aload_n X.1 X.2.1 d_BK_hasRoomFor_16 rfl (lv_at hl 0 rfl) w) ?_
    refine g_get X (ci := 1) rfl fA 3 (by decide) ⟨rfl, rfl⟩ tw_195 (Or.inl rfl) rfl d_BK_hasRoomFor_17 ?_
    refine g_ild X fB (bP b) (rfl) (by omega) (by omega) d_BK_hasRoomFor_20 ?_
    refine g_isub X d_BK_hasRoomFor_21 ?_
    refine g_icmp_gt (tgt := 29) X (⟨by omega, by omega⟩) (⟨by omega, by omega⟩) d_BK_hasRoomFor_22 (by decide) (fun c22 => ?_) (fun c22 => ?_)
    · refine g_1 (fun w => lv_iconst (v := iZ 0) X.1 X.2.1 d_BK_hasRoomFor_29 rfl w) ?_
      exact g_zret X rfl (⟨g_ei (by split <;> omega), rfl⟩) (by decide) (by decide) d_BK_hasRoomFor_30
    · refine g_1 (fun w => lv_iconst (v := iZ 1) X.1 X.2.1 d_BK_hasRoomFor_25 rfl w) ?_
      refine g_goto (tgt := 30) X d_BK_hasRoomFor_26 (by decide) ?_
      exact g_zret X rfl (⟨g_ei (by split <;> omega), rfl⟩) (by decide) (by decide) d_BK_hasRoomFor_30

set_option maxHeartbeats 4000000 in
set_option maxRecDepth 100000 in
theorem c_BK_newestOvertakes {D : va_G} {s0 : State} {l : Launch} {h : gH} (B0 : gB D s0) {a : Nat} {b : Blk} (hb : isBk D h a b) (ho : okB b) (i : Nat) (hi : i < 120) (hm1 : bB b (bC b i) ≤ bB b (bC b (i + 1))) (hm2 : bB b (bC b i) ≤ bB b (bP b)) : gMet D s0 l y_BK_newestOvertakes b_BK_newestOvertakes 6 (some .boolean) ({ frames := 2, cells := 0, slots := 0, locals := 48 } : Room) [.ref a, .int (iZ (i))] h (fun v h' => some (.int (iZ (if ovt b i then 1 else 0))) = v ∧ h = h') := by
  obtain ⟨p1, p2, p3, fA, fB, fG, fC⟩ := id hb
  obtain ⟨k1, k2, k3, k4, k5, k6, k7, k8⟩ := id ho
  have q0 := k5 i
  have q1 := k6 (bC b (i + 1))
  have q2 := k6 (bC b i)
  have q3 := k7 (bC b (i + 1))
  have q4 := k7 (bC b i)
  have q5 := k6 (bP b)
  have q6 := k7 (bP b)
  refine g_enter B0 (plainFor_of_name (by decide)) (Nat.le_of_ble_eq_true rfl) (fun p e s m below meth c ls X hnm hl => ?_)
  have hl : lv_has ls 6 [(0, .ref a), (1, .int (iZ (i)))] := hl
  refine g_1 (fun w => lv_aload_n X.1 X.2.1 d_BK_newestOvertakes_0 rfl (lv_at hl 0 rfl) w) ?_
  refine g_get X (ci := 1) rfl fA 2 (by decide) ⟨rfl, rfl⟩ tw_194 (Or.inl rfl) rfl d_BK_newestOvertakes_1 ?_
  refine g_1 (fun w => lv_iload_n X.1 X.2.1 d_BK_newestOvertakes_4 rfl (lv_at hl 1 rfl) w) ?_
  refine g_ild X fC (i) (rfl) (by omega) (by omega) d_BK_newestOvertakes_5 ?_
  refine g_s (fun kk => lv_istore_n (lv' := [(2, .int (iZ (bC b i))), (0, .ref a), (1, .int (iZ (i)))]) X.1 X.2.1 d_BK_newestOvertakes_6 rfl hl (by decide) rfl kk) (fun ls hl => ?_)
  refine g_1 (fun w => lv_aload_n X.1 X.2.1 d_BK_newestOvertakes_7 rfl (lv_at hl 1 rfl) w) ?_
  refine g_get X (ci := 1) rfl fA 1 (by decide) ⟨rfl, rfl⟩ tw_193 (Or.inl rfl) rfl d_BK_newestOvertakes_8 ?_
  refine g_1 (fun w => lv_aload_n X.1 X.2.1 d_BK_newestOvertakes_11 rfl (lv_at hl 1 rfl) w) ?_
  refine g_get X (ci := 1) rfl fA 3 (by decide) ⟨rfl, rfl⟩ tw_195 (Or.inl rfl) rfl d_BK_newestOvertakes_12 ?_
  refine g_lld X fG (bP b) (rfl) (by omega) (by omega) d_BK_newestOvertakes_15 ?_
  refine g_1 (fun w => lv_aload_n X.1 X.2.1 d_BK_newestOvertakes_16 rfl (lv_at hl 1 rfl) w) ?_
  refine g_get X (ci := 1) rfl fA 1 (by decide) ⟨rfl, rfl⟩ tw_193 (Or.inl rfl) rfl d_BK_newestOvertakes_17 ?_
  refine g_1 (fun w => lv_iload_n X.1 X.2.1 d_BK_newestOvertakes_20 rfl (lv_at hl 0 rfl) w) ?_
  refine g_lld X fG (bC b i) (rfl) (by omega) (by omega) d_BK_newestOvertakes_21 ?_
  refine g_lsub X d_BK_newestOvertakes_22 ?_
  refine g_s (fun kk => lv_lstore_n (lv' := [(3, .long (lZ ((bG b (bP b)) - (bG b (bC b i))))), (2, .int (iZ (bC b i))), (0, .ref a), (1, .int (iZ (i)))]) X.1 X.2.1 d_BK_newestOvertakes_23 rfl hl (by decide) rfl kk) (fun ls hl => ?_)
  refine g_1 (fun w => lv_aload_n X.1 X.2.1 d_BK_newestOvertakes_24 rfl (lv_at hl 2 rfl) w) ?_
  refine g_get X (ci := 1) rfl fA 0 (by decide) ⟨rfl, rfl⟩ tw_192 (Or.inl rfl) rfl d_BK_newestOvertakes_25 ?_
  refine g_1 (fun w => lv_aload_n X.1 X.2.1 d_BK_newestOvertakes_28 rfl (lv_at hl 2 rfl) w) ?_
  refine g_get X (ci := 1) rfl fA 3 (by decide) ⟨rfl, rfl⟩ tw_195 (Or.inl rfl) rfl d_BK_newestOvertakes_29 ?_
  refine g_ild X fB (bP b) (rfl) (by omega) (by omega) d_BK_newestOvertakes_32 ?_
  refine g_1 (fun w => lv_aload_n X.1 X.2.1 d_BK_newestOvertakes_33 rfl (lv_at hl 2 rfl) w) ?_
  refine g_get X (ci := 1) rfl fA 0 (by decide) ⟨rfl, rfl⟩ tw_192 (Or.inl rfl) rfl d_BK_newestOvertakes_34 ?_
  refine g_1 (fun w => lv_iload_n X.1 X.2.1 d_BK_newestOvertakes_37 rfl (lv_at hl 1 rfl) w) ?_
  refine g_ild X fB (bC b i) (rfl) (by omega) (by omega) d_BK_newestOvertakes_38 ?_
  refine g_isub X d_BK_newestOvertakes_39 ?_
  refine g_s (fun kk => lv_istore (lv' := [(5, .int (iZ ((bB b (bP b)) - (bB b (bC b i))))), (3, .long (lZ ((bG b (bP b)) - (bG b (bC b i))))), (2, .int (iZ (bC b i))), (0, .ref a), (1, .int (iZ (i)))]) X.1 X.2.1 d_BK_newestOvertakes_40 hl (by decide) rfl kk) (fun ls hl => ?_)
  refine g_1 (fun w => lv_lload_n X.1 X.2.1 d_BK_newestOvertakes_42 rfl (lv_at hl 1 rfl) w) ?_
  refine g_1 (fun w => lv_lconst (v := lZ 0) X.1 X.2.1 d_BK_newestOvertakes_43 (by decide) w) ?_
  refine g_lcmp X (by first | exact cmpZ_ok _ _ | exact ⟨by omega, by omega⟩) (by first | exact cmpZ_ok _ _ | exact ⟨by omega, by omega⟩) d_BK_newestOvertakes_44 ?_
  refine g_if_le (tgt := 71) X (cmpZ_ok _ _) d_BK_newestOvertakes_45 (by decide) (fun c45 => ?_) (fun c45 => ?_)
  · refine g_1 (fun w => lv_iconst (v := iZ 0) X.1 X.2.1 d_BK_newestOvertakes_71 rfl w) ?_
    exact g_zret X rfl (⟨g_ei (by rw [if_neg (fun z => by first | exact absurd (cmpZ_ge.mpr z.2) (by omega) | (have := cmpZ_gt.mpr z.1; omega))]), rfl⟩) (by decide) (by decide) d_BK_newestOvertakes_72
  · have c45 := cmpZ_gt.mp c45
    refine g_1 (fun w => lv_lload_n X.1 X.2.1 d_BK_newestOvertakes_48 rfl (lv_at hl 1 rfl) w) ?_
    refine g_1 (fun w => lv_iload X.1 X.2.1 d_BK_newestOvertakes_49 (lv_at hl 0 rfl) w) ?_
    refine g_1 (fun w => lv_aload_n X.1 X.2.1 d_BK_newestOvertakes_51 rfl (lv_at hl 3 rfl) w) ?_
    refine g_1 (fun w => lv_iload_n X.1 X.2.1 d_BK_newestOvertakes_52 rfl (lv_at hl 4 rfl) w) ?_
    refine g_callV (na := 1) X (c_BK_stepGain B0 hb ho i (by omega)) rfl fA rfl ⟨⟨tw_327, tw_12⟩, ⟨by decide, by decide, by decide +kernel⟩, by decide, by decide⟩ tw_324 tw_326 ts_BK_stepGain rfl hl.1 (Nat.le_of_ble_eq_true rfl) ⟨by decide, by decide⟩ d_BK_newestOvertakes_53 (fun v h' hp => ?_)
    obtain ⟨rfl, rfl⟩ := hp
    refine g_widen (k' := 0) (n' := 0) (by decide) (by decide) ?_
    show G D s0 p l e _ s m _ below meth c h _ _ _ (F0 m 56 ls [.long (lZ (bG b (bC b (i + 1)) - bG b (bC b i))), .int (iZ ((bB b (bP b)) - (bB b (bC b i)))), .long (lZ ((bG b (bP b)) - (bG b (bC b i))))])
    refine g_1 (fun w => lv_aload_n X.1 X.2.1 d_BK_newestOvertakes_56 rfl (lv_at hl 3 rfl) w) ?_
    refine g_1 (fun w => lv_iload_n X.1 X.2.1 d_BK_newestOvertakes_57 rfl (lv_at hl 4 rfl) w) ?_
    refine g_callV (na := 1) X (c_BK_stepBytes B0 hb ho i (by omega)) rfl fA rfl ⟨⟨tw_331, tw_12⟩, ⟨by decide, by decide, by decide +kernel⟩, by decide, by decide⟩ tw_328 tw_330 ts_BK_stepBytes rfl hl.1 (Nat.le_of_ble_eq_true rfl) ⟨by decide, by decide⟩ d_BK_newestOvertakes_58 (fun v h' hp => ?_)
    obtain ⟨rfl, rfl⟩ := hp
    refine g_widen (k' := 0) (n' := 0) (by decide) (by decide) ?_
    show G D s0 p l e _ s m _ below meth c h _ _ _ (F0 m 61 ls [.int (iZ (bB b (bC b (i + 1)) - bB b (bC b i))), .long (lZ (bG b (bC b (i + 1)) - bG b (bC b i))), .int (iZ ((bB b (bP b)) - (bB b (bC b i)))), .long (lZ ((bG b (bP b)) - (bG b (bC b i))))])
    refine g_callSN (na := 4) X (c_LB_compareSlopes B0 ⟨by omega, by omega⟩ ⟨by omega, by omega⟩ (mul_ok (by omega) (by omega) (by omega) (by omega)) (mul_ok (by omega) (by omega) (by omega) (by omega))) rfl ⟨⟨tw_334, tw_1⟩, ⟨by decide, by decide, by decide +kernel⟩, by decide, by decide⟩ tw_332 tw_333 rfl hl.1 (Nat.le_of_ble_eq_true rfl) ⟨by decide, by decide⟩ d_BK_newestOvertakes_61 (fun v h' hp => ?_)
    obtain ⟨rfl, rfl⟩ := hp
    refine g_widen (k' := 0) (n' := 0) (by decide) (by decide) ?_
    show G D s0 p l e _ s m _ below meth c h _ _ _ (F0 m 64 ls [.int (iZ (cmpZ ((bG b (bP b) - bG b (bC b i)) * (bB b (bC b (i + 1)) - bB b (bC b i))) ((bG b (bC b (i + 1)) - bG b (bC b i)) * (bB b (bP b) - bB b (bC b i)))))])
    refine g_if_lt (tgt := 71) X (cmpZ_ok _ _) d_BK_newestOvertakes_64 (by decide) (fun c64 => ?_) (fun c64 => ?_)
    · refine g_1 (fun w => lv_iconst (v := iZ 0) X.1 X.2.1 d_BK_newestOvertakes_71 rfl w) ?_
      exact g_zret X rfl (⟨g_ei (by rw [if_neg (fun z => by first | exact absurd (cmpZ_ge.mpr z.2) (by omega) | (have := cmpZ_gt.mpr z.1; omega))]), rfl⟩) (by decide) (by decide) d_BK_newestOvertakes_72
    · have c64 := cmpZ_ge.mp c64
      refine g_1 (fun w => lv_iconst (v := iZ 1) X.1 X.2.1 d_BK_newestOvertakes_67 rfl w) ?_
      refine g_goto (tgt := 72) X d_BK_newestOvertakes_68 (by decide) ?_
      exact g_zret X rfl (⟨g_ei (by rw [if_pos ⟨c45, c64⟩]), rfl⟩) (by decide) (by decide) d_BK_newestOvertakes_72

set_option maxHeartbeats 4000000 in
set_option maxRecDepth 100000 in
theorem c_BK_renewSteps {D : va_G} {s0 : State} {l : Launch} {h : gH} (B0 : gB D s0) {a : Nat} {b : Blk} (hb : isBk D h a b) (ho : okB b) (hS : bS b < bP b) (hm : ∀ i, i < bS b → bB b (bC b i) ≤ bB b (bC b (i + 1)) ∧ bB b (bC b i) ≤ bB b (bP b)) : gMet D s0 l y_BK_renewSteps b_BK_renewSteps 2 none ({ frames := 3, cells := 0, slots := 0, locals := 73 } : Room) [.ref a] h (fun v h' => none = v ∧ isBk D h' a (renew b) ∧ kp (P_Bk a) h h') := by
  obtain ⟨p1, p2, p3, fA, fB, fG, fC⟩ := id hb
  obtain ⟨k1, k2, k3, k4, k5, k6, k7, k8⟩ := id ho
  refine g_enter B0 (plainFor_of_name (by decide)) (Nat.le_of_ble_eq_true rfl) (fun p e s m below meth c ls X hnm hl => ?_)
  have hl : lv_has ls 2 [(0, .ref a)] := hl
  have tail : ∀ (n : Nat) (ls : Array Slot), n ≤ bS b → kept b (bS b) = n → lv_has ls 2 [(1, .int (iZ n)), (0, .ref a)] → G D s0 p l e ({ frames := 3, cells := 0, slots := 0, locals := 73 } : Room) s m ([.ref a] : List Value).toArray below meth c h 0 0 (MQ below (gQ D s0 (fun v h' => none = v ∧ isBk D h' a (renew b) ∧ kp (P_Bk a) h h')) ([.ref a] : List Value).toArray s 0 0 (fun q => s0.heap.size ≤ q)) (F0 m 25 ls []) := by
    intro n ls hn ek hl
    have q5 := k7 (bP b)
    have q6 := k7 (bC b n)
    have q7 := k5 n
    have ek := ek
    refine g_1 (fun w => lv_aload_n X.1 X.2.1 d_BK_renewSteps_25 rfl (lv_at hl 1 rfl) w) ?_
    refine g_get X (ci := 1) rfl fA 1 (by decide) ⟨rfl, rfl⟩ tw_193 (Or.inl rfl) rfl d_BK_renewSteps_26 ?_
    refine g_1 (fun w => lv_aload_n X.1 X.2.1 d_BK_renewSteps_29 rfl (lv_at hl 1 rfl) w) ?_
    refine g_get X (ci := 1) rfl fA 3 (by decide) ⟨rfl, rfl⟩ tw_195 (Or.inl rfl) rfl d_BK_renewSteps_30 ?_
    refine g_lld X fG (bP b) (rfl) (by omega) (by omega) d_BK_renewSteps_33 ?_
    refine g_1 (fun w => lv_aload_n X.1 X.2.1 d_BK_renewSteps_34 rfl (lv_at hl 1 rfl) w) ?_
    refine g_get X (ci := 1) rfl fA 1 (by decide) ⟨rfl, rfl⟩ tw_193 (Or.inl rfl) rfl d_BK_renewSteps_35 ?_
    refine g_1 (fun w => lv_aload_n X.1 X.2.1 d_BK_renewSteps_38 rfl (lv_at hl 1 rfl) w) ?_
    refine g_get X (ci := 1) rfl fA 2 (by decide) ⟨rfl, rfl⟩ tw_194 (Or.inl rfl) rfl d_BK_renewSteps_39 ?_
    refine g_1 (fun w => lv_iload_n X.1 X.2.1 d_BK_renewSteps_42 rfl (lv_at hl 0 rfl) w) ?_
    refine g_ild X fC (n) (rfl) (by omega) (by omega) d_BK_renewSteps_43 ?_
    refine g_lld X fG (bC b n) (rfl) (by omega) (by omega) d_BK_renewSteps_44 ?_
    refine g_lcmp X (by first | exact cmpZ_ok _ _ | (split <;> exact ⟨by omega, by omega⟩) | exact ⟨by omega, by omega⟩) (by first | exact cmpZ_ok _ _ | (split <;> exact ⟨by omega, by omega⟩) | exact ⟨by omega, by omega⟩) d_BK_renewSteps_45 ?_
    refine g_if_le (tgt := 62) X (cmpZ_ok _ _) d_BK_renewSteps_46 (by decide) (fun c46 => ?_) (fun c46 => ?_)
    · have c46 : ¬ 0 < cmpZ (bG b (bP b)) (bG b (bC b n)) := by omega
      rw [cmpZ_gt] at c46
      refine g_1 (fun w => lv_aload_n X.1 X.2.1 d_BK_renewSteps_62 rfl (lv_at hl 1 rfl) w) ?_
      refine g_1 (fun w => lv_iload_n X.1 X.2.1 d_BK_renewSteps_63 rfl (lv_at hl 0 rfl) w) ?_
      refine g_put X (ci := 1) rfl fA (Nat.succ_ne_zero _) 4 (by decide) ⟨rfl, rfl⟩ tw_197 (Or.inl rfl) rfl rfl rfl (Nat.le_of_ble_eq_true rfl) d_BK_renewSteps_64 ?_
      obtain ⟨h_1, eh_1⟩ : ∃ z, z = g_up h a ((1, 0), .inr (1, [.ref p1, .ref p2, .ref p3, .int (iZ (bP b)), .int (iZ (n)), .int (iZ (bT b)), .int (iZ (bL b))])) := ⟨_, rfl⟩
      refine g_h (h' := h_1) eh_1.symm ?_
      have f_2 : h_1 a = some ((1, 0), .inr (1, [.ref p1, .ref p2, .ref p3, .int (iZ (bP b)), .int (iZ (n)), .int (iZ (bT b)), .int (iZ (bL b))])) := by rw [eh_1]; exact g_us
      have f_3 : h_1 p1 = some ((11, a), gI D 121 (bB b)) := by rw [eh_1]; exact g_uk fB fA (show (11 : Nat) ≠ 1 by decide)
      have f_4 : h_1 p2 = some ((12, a), gL D 121 (bG b)) := by rw [eh_1]; exact g_uk fG fA (show (12 : Nat) ≠ 1 by decide)
      have f_5 : h_1 p3 = some ((13, a), gI D 121 (fun j => ((bC b j : Nat) : Int))) := by rw [eh_1]; exact g_uk fC fA (show (13 : Nat) ≠ 1 by decide)
      have hk_6 := kp_up (kp_rf (P := P_Bk a) (h := h)) eh_1 fA (Or.inl rfl)
      exact g_vret X (⟨rfl, by unfold renew; rw [ek, if_neg (by omega)]; exact ⟨p1, p2, p3, f_2, f_3, f_4, f_5⟩, hk_6⟩) (by decide) (by decide) d_BK_renewSteps_67
    · have c46 := cmpZ_gt.mp c46
      refine g_s (fun kk => lv_iinc (v := iZ (n + 1)) (lv' := [(1, .int (iZ (n + 1))), (0, .ref a)]) X.1 X.2.1 d_BK_renewSteps_49 hl (k := 0) rfl (iZ_add _ _) (by decide) rfl kk) (fun ls hl => ?_)
      refine g_1 (fun w => lv_aload_n X.1 X.2.1 d_BK_renewSteps_52 rfl (lv_at hl 1 rfl) w) ?_
      refine g_get X (ci := 1) rfl fA 2 (by decide) ⟨rfl, rfl⟩ tw_194 (Or.inl rfl) rfl d_BK_renewSteps_53 ?_
      refine g_1 (fun w => lv_iload_n X.1 X.2.1 d_BK_renewSteps_56 rfl (lv_at hl 0 rfl) w) ?_
      refine g_1 (fun w => lv_aload_n X.1 X.2.1 d_BK_renewSteps_57 rfl (lv_at hl 1 rfl) w) ?_
      refine g_get X (ci := 1) rfl fA 3 (by decide) ⟨rfl, rfl⟩ tw_195 (Or.inl rfl) rfl d_BK_renewSteps_58 ?_
      refine g_ist X fC (Nat.succ_ne_zero _) (n + 1) (by omega) (by omega) (by omega) d_BK_renewSteps_61 ?_
      obtain ⟨h_7, eh_7⟩ : ∃ z, z = g_up h p3 ((13, a), gI D 121 (va_up (fun j => ((bC b j : Nat) : Int)) (n + 1) (bP b))) := ⟨_, rfl⟩
      refine g_h (h' := h_7) eh_7.symm ?_
      have f_8 : h_7 a = some ((1, 0), .inr (1, [.ref p1, .ref p2, .ref p3, .int (iZ (bP b)), .int (iZ (bS b)), .int (iZ (bT b)), .int (iZ (bL b))])) := by rw [eh_7]; exact g_uk fA fC (show (1 : Nat) ≠ 13 by decide)
      have f_9 : h_7 p1 = some ((11, a), gI D 121 (bB b)) := by rw [eh_7]; exact g_uk fB fC (show (11 : Nat) ≠ 13 by decide)
      have f_10 : h_7 p2 = some ((12, a), gL D 121 (bG b)) := by rw [eh_7]; exact g_uk fG fC (show (12 : Nat) ≠ 13 by decide)
      have f_11 : h_7 p3 = some ((13, a), gI D 121 (va_up (fun j => ((bC b j : Nat) : Int)) (n + 1) (bP b))) := by rw [eh_7]; exact g_us
      have hk_12 := kp_up (kp_rf (P := P_Bk a) (h := h)) eh_7 fC (Or.inr ⟨rfl, Nat.le_of_ble_eq_true rfl, Nat.le_of_ble_eq_true rfl⟩)
      refine g_1 (fun w => lv_aload_n X.1 X.2.1 d_BK_renewSteps_62 rfl (lv_at hl 1 rfl) w) ?_
      refine g_1 (fun w => lv_iload_n X.1 X.2.1 d_BK_renewSteps_63 rfl (lv_at hl 0 rfl) w) ?_
      refine g_put X (ci := 1) rfl f_8 (Nat.succ_ne_zero _) 4 (by decide) ⟨rfl, rfl⟩ tw_197 (Or.inl rfl) rfl rfl rfl (Nat.le_of_ble_eq_true rfl) d_BK_renewSteps_64 ?_
      obtain ⟨h_13, eh_13⟩ : ∃ z, z = g_up h_7 a ((1, 0), .inr (1, [.ref p1, .ref p2, .ref p3, .int (iZ (bP b)), .int (iZ (n + 1)), .int (iZ (bT b)), .int (iZ (bL b))])) := ⟨_, rfl⟩
      refine g_h (h' := h_13) eh_13.symm ?_
      have f_14 : h_13 a = some ((1, 0), .inr (1, [.ref p1, .ref p2, .ref p3, .int (iZ (bP b)), .int (iZ (n + 1)), .int (iZ (bT b)), .int (iZ (bL b))])) := by rw [eh_13]; exact g_us
      have f_15 : h_13 p1 = some ((11, a), gI D 121 (bB b)) := by rw [eh_13]; exact g_uk f_9 f_8 (show (11 : Nat) ≠ 1 by decide)
      have f_16 : h_13 p2 = some ((12, a), gL D 121 (bG b)) := by rw [eh_13]; exact g_uk f_10 f_8 (show (12 : Nat) ≠ 1 by decide)
      have f_17 : h_13 p3 = some ((13, a), gI D 121 (va_up (fun j => ((bC b j : Nat) : Int)) (n + 1) (bP b))) := by rw [eh_13]; exact g_uk f_11 f_8 (show (13 : Nat) ≠ 1 by decide)
      have hk_18 := kp_up (hk_12) eh_13 f_8 (Or.inl rfl)
      exact g_vret X (⟨rfl, by unfold renew; rw [ek, if_pos c46]; exact ⟨p1, p2, p3, f_14, f_15, f_16, by rw [← va_up_c]; exact f_17⟩, hk_18⟩) (by decide) (by decide) d_BK_renewSteps_67
  have loop : ∀ (n : Nat) (ls : Array Slot), n ≤ bS b → kept b n = kept b (bS b) → lv_has ls 2 [(1, .int (iZ n)), (0, .ref a)] → G D s0 p l e ({ frames := 3, cells := 0, slots := 0, locals := 73 } : Room) s m ([.ref a] : List Value).toArray below meth c h 0 0 (MQ below (gQ D s0 (fun v h' => none = v ∧ isBk D h' a (renew b) ∧ kp (P_Bk a) h h')) ([.ref a] : List Value).toArray s 0 0 (fun q => s0.heap.size ≤ q)) (F0 m 5 ls []) := by
    intro n
    induction n with
    | zero =>
      intro ls hn ek hl
      refine g_1 (fun w => lv_iload_n X.1 X.2.1 d_BK_renewSteps_5 rfl (lv_at hl 0 rfl) w) ?_
      refine g_if_le (tgt := 25) X (by first | exact cmpZ_ok _ _ | (split <;> exact ⟨by omega, by omega⟩) | exact ⟨by omega, by omega⟩) d_BK_renewSteps_6 (by decide) (fun c6 => ?_) (fun c6 => ?_)
      · exact tail 0 ls (by omega) (by rw [← ek]; rfl) hl
      · exact absurd c6 (by decide)
    | succ n ih =>
      intro ls hn ek hl
      refine g_1 (fun w => lv_iload_n X.1 X.2.1 d_BK_renewSteps_5 rfl (lv_at hl 0 rfl) w) ?_
      refine g_if_le (tgt := 25) X (by first | exact cmpZ_ok _ _ | (split <;> exact ⟨by omega, by omega⟩) | exact ⟨by omega, by omega⟩) d_BK_renewSteps_6 (by decide) (fun c6 => ?_) (fun c6 => ?_)
      · first | (exfalso; omega) | exact tail (n + 1) ls (by omega) (ek.symm.trans (kept_f (fun z => by rw [if_pos z] at c16; omega))) (lv_sub hl [0, 1] rfl)
      · refine g_1 (fun w => lv_aload_n X.1 X.2.1 d_BK_renewSteps_9 rfl (lv_at hl 1 rfl) w) ?_
        refine g_1 (fun w => lv_iload_n X.1 X.2.1 d_BK_renewSteps_10 rfl (lv_at hl 0 rfl) w) ?_
        refine g_1 (fun w => lv_iconst (v := iZ 1) X.1 X.2.1 d_BK_renewSteps_11 rfl w) ?_
        refine g_isub X d_BK_renewSteps_12 ?_
        refine g_ti (congrArg iZ (show ((((n + 1 : Nat) : Int)) - 1 : Int) = n from by omega)) ?_
        refine g_callV (na := 1) X (c_BK_newestOvertakes B0 hb ho n (by omega) (hm n (by omega)).1 (hm n (by omega)).2) rfl fA rfl ⟨⟨tw_323, tw_12⟩, ⟨by decide, by decide, by decide +kernel⟩, by decide, by decide⟩ tw_320 tw_322 ts_BK_newestOvertakes rfl hl.1 (Nat.le_of_ble_eq_true rfl) ⟨by decide, by decide⟩ d_BK_renewSteps_13 (fun v h' hp => ?_)
        obtain ⟨rfl, rfl⟩ := hp
        refine g_widen (k' := 0) (n' := 0) (by decide) (by decide) ?_
        show G D s0 p l e _ s m _ below meth c h _ _ _ (F0 m 16 ls [.int (iZ (if ovt b n then 1 else 0))])
        refine g_if_eq (tgt := 25) X (by first | exact cmpZ_ok _ _ | (split <;> exact ⟨by omega, by omega⟩) | exact ⟨by omega, by omega⟩) d_BK_renewSteps_16 (by decide) (fun c16 => ?_) (fun c16 => ?_)
        · first | (exfalso; omega) | exact tail (n + 1) ls (by omega) (ek.symm.trans (kept_f (fun z => by rw [if_pos z] at c16; omega))) (lv_sub hl [0, 1] rfl)
        · refine g_s (fun kk => lv_iinc (v := iZ (((n + 1 : Nat) : Int) + (-1))) (lv' := [(1, .int (iZ (((n + 1 : Nat) : Int) + (-1)))), (0, .ref a)]) X.1 X.2.1 d_BK_renewSteps_19 hl (k := 0) rfl (iZ_add _ _) (by decide) rfl kk) (fun ls hl => ?_)
          refine g_goto (tgt := 5) X d_BK_renewSteps_22 (by decide) ?_
          have hl := lv_sub hl [0, 1] rfl
          have hl : lv_has ls 2 [(1, .int (iZ n)), (0, .ref a)] := by rw [show (n : Int) = ((n + 1 : Nat) : Int) + (-1) by omega]; exact hl
          exact ih ls (by omega) ((kept_t (by rcases Classical.em (ovt b n) with z | z; exact z; rw [if_neg z] at c16; omega)).symm.trans ek) hl
  refine g_1 (fun w => lv_aload_n X.1 X.2.1 d_BK_renewSteps_0 rfl (lv_at hl 0 rfl) w) ?_
  refine g_get X (ci := 1) rfl fA 4 (by decide) ⟨rfl, rfl⟩ tw_197 (Or.inl rfl) rfl d_BK_renewSteps_1 ?_
  refine g_s (fun kk => lv_istore_n (lv' := [(1, .int (iZ (bS b))), (0, .ref a)]) X.1 X.2.1 d_BK_renewSteps_4 rfl hl (by decide) rfl kk) (fun ls hl => ?_)
  exact loop (bS b) ls (Nat.le_refl _) rfl (lv_sub hl [0, 1] rfl)
