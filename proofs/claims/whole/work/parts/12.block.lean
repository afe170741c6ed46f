set_option maxHeartbeats 4000000 in
set_option maxRecDepth 100000 in
theorem c_BK_allBytes {D : va_G} {s0 : State} {l : Launch} {h : gH} (B0 : gB D s0) {a : Nat} {b : Blk} (hb : isBk D h a b) (ho : okB b) : gMet D s0 l y_BK_allBytes b_BK_allBytes 1 (some .int) ({ frames := 0, cells := 0, slots := 0, locals := 0 } : Room) [.ref a] h (fun v h' => some (.int (iZ (bB b (bP b)))) = v ∧ h = h') := by
  obtain ⟨p1, p2, p3, fA, fB, fG, fC⟩ := id hb
  obtain ⟨k1, k2, k3, k4, k5, k6, k7, k8⟩ := id ho
  refine g_enter B0 (plainFor_of_name (by decide)) (Nat.le_of_ble_eq_true rfl) (fun p e s m below meth c ls X hnm hl => ?_)
  have hl : lv_has ls 1 [(0, .ref a)] := hl
  refine g_1 (fun w => lv_aload_n X.1 X.2.1 d_BK_allBytes_0 rfl (lv_at hl 0 rfl) w) ?_
  refine g_get X (ci := 1) rfl fA 0 (by decide) ⟨rfl, rfl⟩ tw_192 (Or.inl rfl) rfl d_BK_allBytes_1 ?_
  refine g_1 (fun w => lv_aload_n X.1 X.2.1 d_BK_allBytes_4 rfl (lv_at hl 0 rfl) w) ?_
  refine g_get X (ci := 1) rfl fA 3 (by decide) ⟨rfl, rfl⟩ tw_195 (Or.inl rfl) rfl d_BK_allBytes_5 ?_
  refine g_ild X fB (bP b) (rfl) (by omega) (by omega) d_BK_allBytes_8 ?_
  exact g_iret X (⟨rfl, rfl⟩) (by decide) (by decide) d_BK_allBytes_9

set_option maxHeartbeats 4000000 in
set_option maxRecDepth 100000 in
theorem c_BK_hasNext {D : va_G} {s0 : State} {l : Launch} {h : gH} (B0 : gB D s0) {a : Nat} {b : Blk} (hb : isBk D h a b) (ho : okB b) : gMet D s0 l y_BK_hasNext b_BK_hasNext 1 (some .boolean) ({ frames := 0, cells := 0, slots := 0, locals := 0 } : Room) [.ref a] h (fun v h' => some (.int (iZ (if bT b < bS b then 1 else 0))) = v ∧ h = h') := by
  obtain ⟨p1, p2, p3, fA, fB, fG, fC⟩ := id hb
  obtain ⟨k1, k2, k3, k4, k5, k6, k7, k8⟩ := id ho
  refine g_enter B0 (plainFor_of_name (by decide)) (Nat.le_of_ble_eq_true rfl) (fun p e s m below meth c ls X hnm hl => ?_)
  have hl : lv_has ls 1 [(0, .ref a)] := hl
  refine g_1 (fun w => lv_aload_n X.1 X.2.1 d_BK_hasNext_0 rfl (lv_at hl 0 rfl) w) ?_
  refine g_get X (ci := 1) rfl fA 5 (by decide) ⟨rfl, rfl⟩ tw_199 (Or.inl rfl) rfl d_BK_hasNext_1 ?_
  refine g_1 (fun w => lv_aload_n X.1 X.2.1 d_BK_hasNext_4 rfl (lv_at hl 0 rfl) w) ?_
  refine g_get X (ci := 1) rfl fA 4 (by decide) ⟨rfl, rfl⟩ tw_197 (Or.inl rfl) rfl d_BK_hasNext_5 ?_
  refine g_icmp_ge (tgt := 15) X (⟨by omega, by omega⟩) (⟨by omega, by omega⟩) d_BK_hasNext_8 (by decide) (fun c8 => ?_) (fun c8 => ?_)
  · refine g_1 (fun w => lv_iconst (v := iZ 0) X.1 X.2.1 d_BK_hasNext_15 rfl w) ?_
    exact g_zret X rfl (⟨g_ei (by split <;> omega), rfl⟩) (by decide) (by decide) d_BK_hasNext_16
  · refine g_1 (fun w => lv_iconst (v := iZ 1) X.1 X.2.1 d_BK_hasNext_11 rfl w) ?_
    refine g_goto (tgt := 16) X d_BK_hasNext_12 (by decide) ?_
    exact g_zret X rfl (⟨g_ei (by split <;> omega), rfl⟩) (by decide) (by decide) d_BK_hasNext_16

set_option maxHeartbeats 4000000 in
set_option maxRecDepth 100000 in
theorem c_BK_hasStep {D : va_G} {s0 : State} {l : Launch} {h : gH} (B0 : gB D s0) {a : Nat} {b : Blk} (hb : isBk D h a b) (ho : okB b) {i : Int} (hi : i_ok i) : gMet D s0 l y_BK_hasStep b_BK_hasStep 2 (some .boolean) ({ frames := 0, cells := 0, slots := 0, locals := 0 } : Room) [.ref a, .int (iZ (i))] h (fun v h' => some (.int (iZ (if 0 ≤ i ∧ i < bS b then 1 else 0))) = v ∧ h = h') := by
  obtain ⟨p1, p2, p3, fA, fB, fG, fC⟩ := id hb
  obtain ⟨k1, k2, k3, k4, k5, k6, k7, k8⟩ := id ho
  obtain ⟨hi1, hi2⟩ := id hi
  refine g_enter B0 (plainFor_of_name (by decide)) (Nat.le_of_ble_eq_true rfl) (fun p e s m below meth c ls X hnm hl => ?_)
  have hl : lv_has ls 2 [(0, .ref a), (1, .int (iZ (i)))] := hl
  refine g_1 (fun w => lv_iload_n X.1 X.2.1 d_BK_hasStep_0 rfl (lv_at hl 1 rfl) w) ?_
  refine g_if_lt (tgt := 16) X (⟨by omega, by omega⟩) d_BK_hasStep_1 (by decide) (fun c1 => ?_) (fun c1 => ?_)
  · refine g_1 (fun w => lv_iconst (v := iZ 0) X.1 X.2.1 d_BK_hasStep_16 rfl w) ?_
    exact g_zret X rfl (⟨g_ei (by split <;> omega), rfl⟩) (by decide) (by decide) d_BK_hasStep_17
  · refine g_1 (fun w => lv_iload_n X.1 X.2.1 d_BK_hasStep_4 rfl (lv_at hl 1 rfl) w) ?_
    refine g_1 (fun w => lv_aload_n X.1 X.2.1 d_BK_hasStep_5 rfl (lv_at hl 0 rfl) w) ?_
    refine g_get X (ci := 1) rfl fA 4 (by decide) ⟨rfl, rfl⟩ tw_197 (Or.inl rfl) rfl d_BK_hasStep_6 ?_
    refine g_icmp_ge (tgt := 16) X (⟨by omega, by omega⟩) (⟨by omega, by omega⟩) d_BK_hasStep_9 (by decide) (fun c9 => ?_) (fun c9 => ?_)
    · refine g_1 (fun w => lv_iconst (v := iZ 0) X.1 X.2.1 d_BK_hasStep_16 rfl w) ?_
      exact g_zret X rfl (⟨g_ei (by split <;> omega), rfl⟩) (by decide) (by decide) d_BK_hasStep_17
    · refine g_1 (fun w => lv_iconst (v := iZ 1) X.1 X.2.1 d_BK_hasStep_12 rfl w) ?_
      refine g_goto (tgt := 17) X d_BK_hasStep_13 (by decide) ?_
      exact g_zret X rfl (⟨g_ei (by split <;> omega), rfl⟩) (by decide) (by decide) d_BK_hasStep_17

set_option maxHeartbeats 4000000 in
set_option maxRecDepth 100000 in
theorem c_BK_stepEnd {D : va_G} {s0 : State} {l : Launch} {h : gH} (B0 : gB D s0) {a : Nat} {b : Blk} (hb : isBk D h a b) (ho : okB b) (i : Nat) (hi : i < 120) : gMet D s0 l y_BK_stepEnd b_BK_stepEnd 2 (some .int) ({ frames := 0, cells := 0, slots := 0, locals := 0 } : Room) [.ref a, .int (iZ (i))] h (fun v h' => some (.int (iZ (bC b (i + 1)))) = v ∧ h = h') := by
  obtain ⟨p1, p2, p3, fA, fB, fG, fC⟩ := id hb
  obtain ⟨k1, k2, k3, k4, k5, k6, k7, k8⟩ := id ho
  refine g_enter B0 (plainFor_of_name (by decide)) (Nat.le_of_ble_eq_true rfl) (fun p e s m below meth c ls X hnm hl => ?_)
  have hl : lv_has ls 2 [(0, .ref a), (1, .int (iZ (i)))] := hl
  refine g_1 (fun w => lv_aload_n X.1 X.2.1 d_BK_stepEnd_0 rfl (lv_at hl 0 rfl) w) ?_
  refine g_get X (ci := 1) rfl fA 2 (by decide) ⟨rfl, rfl⟩ tw_194 (Or.inl rfl) rfl d_BK_stepEnd_1 ?_
  refine g_1 (fun w => lv_iload_n X.1 X.2.1 d_BK_stepEnd_4 rfl (lv_at hl 1 rfl) w) ?_
  refine g_1 (fun w => lv_iconst (v := iZ 1) X.1 X.2.1 d_BK_stepEnd_5 rfl w) ?_
  refine g_iadd X d_BK_stepEnd_6 ?_
  refine g_ild X fC (i + 1) (by omega) (by omega) (by omega) d_BK_stepEnd_7 ?_
  exact g_iret X (⟨rfl, rfl⟩) (by decide) (by decide) d_BK_stepEnd_8

set_option maxHeartbeats 4000000 in
set_option maxRecDepth 100000 in
theorem c_BK_stepBytes {D : va_G} {s0 : State} {l : Launch} {h : gH} (B0 : gB D s0) {a : Nat} {b : Blk} (hb : isBk D h a b) (ho : okB b) (i : Nat) (hi : i < 120) : gMet D s0 l y_BK_stepBytes b_BK_stepBytes 2 (some .int) ({ frames := 0, cells := 0, slots := 0, locals := 0 } : Room) [.ref a, .int (iZ (i))] h (fun v h' => some (.int (iZ (bB b (bC b (i + 1)) - bB b (bC b i)))) = v ∧ h = h') := by
  obtain ⟨p1, p2, p3, fA, fB, fG, fC⟩ := id hb
  obtain ⟨k1, k2, k3, k4, k5, k6, k7, k8⟩ := id ho
  have q1 := k5 (i + 1)
  have q2 := k5 i
  refine g_enter B0 (plainFor_of_name (by decide)) (Nat.le_of_ble_eq_true rfl) (fun p e s m below meth c ls X hnm hl => ?_)
  have hl : lv_has ls 2 [(0, .ref a), (1, .int (iZ (i)))] := hl
  refine g_1 (fun w => lv_aload_n X.1 X.2.1 d_BK_stepBytes_0 rfl (lv_at hl 0 rfl) w) ?_
  refine g_get X (ci := 1) rfl fA 0 (by decide) ⟨rfl, rfl⟩ tw_192 (Or.inl rfl) rfl d_BK_stepBytes_1 ?_
  refine g_1 (fun w => lv_aload_n X.1 X.2.1 d_BK_stepBytes_4 rfl (lv_at hl 0 rfl) w) ?_
  refine g_get X (ci := 1) rfl fA 2 (by decide) ⟨rfl, rfl⟩ tw_194 (Or.inl rfl) rfl d_BK_stepBytes_5 ?_
  refine g_1 (fun w => lv_iload_n X.1 X.2.1 d_BK_stepBytes_8 rfl (lv_at hl 1 rfl) w) ?_
  refine g_1 (fun w => lv_iconst (v := iZ 1) X.1 X.2.1 d_BK_stepBytes_9 rfl w) ?_
  refine g_iadd X d_BK_stepBytes_10 ?_
  refine g_ild X fC (i + 1) (by omega) (by omega) (by omega) d_BK_stepBytes_11 ?_
  refine g_ild X fB (bC b (i + 1)) (rfl) (by omega) (by omega) d_BK_stepBytes_12 ?_
  refine g_1 (fun w => lv_aload_n X.1 X.2.1 d_BK_stepBytes_13 rfl (lv_at hl 0 rfl) w) ?_
  refine g_get X (ci := 1) rfl fA 0 (by decide) ⟨rfl, rfl⟩ tw_192 (Or.inl rfl) rfl d_BK_stepBytes_14 ?_
  refine g_1 (fun w => lv_aload_n X.1 X.2.1 d_BK_stepBytes_17 rfl (lv_at hl 0 rfl) w) ?_
  refine g_get X (ci := 1) rfl fA 2 (by decide) ⟨rfl, rfl⟩ tw_194 (Or.inl rfl) rfl d_BK_stepBytes_18 ?_
  refine g_1 (fun w => lv_iload_n X.1 X.2.1 d_BK_stepBytes_21 rfl (lv_at hl 1 rfl) w) ?_
  refine g_ild X fC (i) (rfl) (by omega) (by omega) d_BK_stepBytes_22 ?_
  refine g_ild X fB (bC b i) (rfl) (by omega) (by omega) d_BK_stepBytes_23 ?_
  refine g_isub X d_BK_stepBytes_24 ?_
  exact g_iret X (⟨rfl, rfl⟩) (by decide) (by decide) d_BK_stepBytes_25

set_option maxHeartbeats 4000000 in
set_option maxRecDepth 100000 in
theorem c_BK_stepGain {D : va_G} {s0 : State} {l : Launch} {h : gH} (B0 : gB D s0) {a : Nat} {b : Blk} (hb : isBk D h a b) (ho : okB b) (i : Nat) (hi : i < 120) : gMet D s0 l y_BK_stepGain b_BK_stepGain 2 (some .long) ({ frames := 0, cells := 0, slots := 0, locals := 0 } : Room) [.ref a, .int (iZ (i))] h (fun v h' => some (.long (lZ (bG b (bC b (i + 1)) - bG b (bC b i)))) = v ∧ h = h') := by
  obtain ⟨p1, p2, p3, fA, fB, fG, fC⟩ := id hb
  obtain ⟨k1, k2, k3, k4, k5, k6, k7, k8⟩ := id ho
  have q1 := k5 (i + 1)
  have q2 := k5 i
  refine g_enter B0 (plainFor_of_name (by decide)) (Nat.le_of_ble_eq_true rfl) (fun p e s m below meth c ls X hnm hl => ?_)
  have hl : lv_has ls 2 [(0, .ref a), (1, .int (iZ (i)))] := hl
  refine g_1 (fun w => lv_aload_n X.1 X.2.1 d_BK_stepGain_0 rfl (lv_at hl 0 rfl) w) ?_
  refine g_get X (ci := 1) rfl fA 1 (by decide) ⟨rfl, rfl⟩ tw_193 (Or.inl rfl) rfl d_BK_stepGain_1 ?_
  refine g_1 (fun w => lv_aload_n X.1 X.2.1 d_BK_stepGain_4 rfl (lv_at hl 0 rfl) w) ?_
  refine g_get X (ci := 1) rfl fA 2 (by decide) ⟨rfl, rfl⟩ tw_194 (Or.inl rfl) rfl d_BK_stepGain_5 ?_
  refine g_1 (fun w => lv_iload_n X.1 X.2.1 d_BK_stepGain_8 rfl (lv_at hl 1 rfl) w) ?_
  refine g_1 (fun w => lv_iconst (v := iZ 1) X.1 X.2.1 d_BK_stepGain_9 rfl w) ?_
  refine g_iadd X d_BK_stepGain_10 ?_
  refine g_ild X fC (i + 1) (by omega) (by omega) (by omega) d_BK_stepGain_11 ?_
  refine g_lld X fG (bC b (i + 1)) (rfl) (by omega) (by omega) d_BK_stepGain_12 ?_
  refine g_1 (fun w => lv_aload_n X.1 X.2.1 d_BK_stepGain_13 rfl (lv_at hl 0 rfl) w) ?_
  refine g_get X (ci := 1) rfl fA 1 (by decide) ⟨rfl, rfl⟩ tw_193 (Or.inl rfl) rfl d_BK_stepGain_14 ?_
  refine g_1 (fun w => lv_aload_n X.1 X.2.1 d_BK_stepGain_17 rfl (lv_at hl 0 rfl) w) ?_
  refine g_get X (ci := 1) rfl fA 2 (by decide) ⟨rfl, rfl⟩ tw_194 (Or.inl rfl) rfl d_BK_stepGain_18 ?_
  refine g_1 (fun w => lv_iload_n X.1 X.2.1 d_BK_stepGain_21 rfl (lv_at hl 1 rfl) w) ?_
  refine g_ild X fC (i) (rfl) (by omega) (by omega) d_BK_stepGain_22 ?_
  refine g_lld X fG (bC b i) (rfl) (by omega) (by omega) d_BK_stepGain_23 ?_
  refine g_lsub X d_BK_stepGain_24 ?_
  exact g_lret X (⟨rfl, rfl⟩) (by decide) (by decide) d_BK_stepGain_25
