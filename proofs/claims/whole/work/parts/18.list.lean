set_option maxHeartbeats 4000000 in
set_option maxRecDepth 100000 in
theorem c_PC_checkIndex {D : va_G} {s0 : State} {l : Launch} {h : gH} (B0 : gB D s0) {i n : Int} (hi : 0 ≤ i) (hn : i < n) (hn2 : n < 2147483648) : gMet D s0 l y_PC_checkIndex b_PC_checkIndex 3 (some .int) ({ frames := 0, cells := 0, slots := 0, locals := 0 } : Room) [.int (iZ (i)), .int (iZ (n)), .null] h (fun v h' => some (.int (iZ i)) = v ∧ h = h') := by
  refine g_enter B0 (plainFor_of_name (by decide)) (Nat.le_of_ble_eq_true rfl) (fun p e s m below meth c ls X hnm hl => ?_)
  have hl : lv_has ls 3 [(0, .int (iZ (i))), (1, .int (iZ (n))), (2, .null)] := hl
  refine g_1 (fun w => lv_iload_n X.1 X.2.1 d_PC_checkIndex_0 rfl (lv_at hl 0 rfl) w) ?_
  refine g_if_lt (tgt := 9) X (⟨by omega, by omega⟩) d_PC_checkIndex_1 (by decide) (fun c1 => ?_) (fun c1 => ?_)
  · exfalso
    omega
  · refine g_1 (fun w => lv_iload_n X.1 X.2.1 d_PC_checkIndex_4 rfl (lv_at hl 0 rfl) w) ?_
    refine g_1 (fun w => lv_iload_n X.1 X.2.1 d_PC_checkIndex_5 rfl (lv_at hl 1 rfl) w) ?_
    refine g_icmp_lt (tgt := 16) X (⟨by omega, by omega⟩) (⟨by omega, by omega⟩) d_PC_checkIndex_6 (by decide) (fun c6 => ?_) (fun c6 => ?_)
    · refine g_1 (fun w => lv_iload_n X.1 X.2.1 d_PC_checkIndex_16 rfl (lv_at hl 0 rfl) w) ?_
      exact g_iret X (⟨rfl, rfl⟩) (by decide) (by decide) d_PC_checkIndex_17
    · exfalso
      omega

set_option maxHeartbeats 4000000 in
set_option maxRecDepth 100000 in
theorem c_OJ_checkIndex {D : va_G} {s0 : State} {l : Launch} {h : gH} (B0 : gB D s0) {i n : Int} (hi : 0 ≤ i) (hn : i < n) (hn2 : n < 2147483648) : gMet D s0 l y_OJ_checkIndex b_OJ_checkIndex 2 (some .int) ({ frames := 1, cells := 0, slots := 0, locals := 22 } : Room) [.int (iZ (i)), .int (iZ (n))] h (fun v h' => some (.int (iZ i)) = v ∧ h = h') := by
  refine g_enter B0 (plainFor_of_name (by decide)) (Nat.le_of_ble_eq_true rfl) (fun p e s m below meth c ls X hnm hl => ?_)
  have hl : lv_has ls 2 [(0, .int (iZ (i))), (1, .int (iZ (n)))] := hl
  refine g_1 (fun w => lv_iload_n X.1 X.2.1 d_OJ_checkIndex_0 rfl (lv_at hl 0 rfl) w) ?_
  refine g_1 (fun w => lv_iload_n X.1 X.2.1 d_OJ_checkIndex_1 rfl (lv_at hl 1 rfl) w) ?_
  refine g_1 (fun w => lv_null X.1 X.2.1 d_OJ_checkIndex_2 w) ?_
  refine g_callS (na := 3) X (c_PC_checkIndex B0 hi hn hn2) rfl ⟨⟨tw_97, tw_7⟩, ⟨by decide, by decide, by decide +kernel⟩, by decide, by decide⟩ tw_95 tw_96 rfl hl.1 (Nat.le_of_ble_eq_true rfl) ⟨by decide, by decide⟩ d_OJ_checkIndex_3 (fun v h' hp => ?_)
  obtain ⟨rfl, rfl⟩ := hp
  refine g_widen (k' := 0) (n' := 0) (by decide) (by decide) ?_
  show G D s0 p l e _ s m _ below meth c h _ _ _ (F0 m 6 ls [.int (iZ (i))])
  exact g_iret X (⟨rfl, rfl⟩) (by decide) (by decide) d_OJ_checkIndex_6

set_option maxHeartbeats 4000000 in
set_option maxRecDepth 100000 in
theorem c_AL_size {D : va_G} {s0 : State} {l : Launch} {h : gH} (B0 : gB D s0) {a w : Nat} {L : List Nat} (ha : isAL D h a w L) : gMet D s0 l y_AL_size b_AL_size 1 (some .int) ({ frames := 0, cells := 0, slots := 0, locals := 0 } : Room) [.ref a] h (fun v h' => some (.int (iZ L.length)) = v ∧ h = h') := by
  obtain ⟨e0, mc, fA, hc⟩ := id ha
  refine g_enter B0 (plainFor_of_name (by decide)) (Nat.le_of_ble_eq_true rfl) (fun p e s m below meth c ls X hnm hl => ?_)
  have hl : lv_has ls 1 [(0, .ref a)] := hl
  refine g_1 (fun w => lv_aload_n X.1 X.2.1 d_AL_size_0 rfl (lv_at hl 0 rfl) w) ?_
  refine g_get X (ci := 3) rfl fA 1 (by decide) ⟨rfl, rfl⟩ tw_44 (Or.inl rfl) rfl d_AL_size_1 ?_
  exact g_iret X (⟨rfl, rfl⟩) (by decide) (by decide) d_AL_size_4

set_option maxHeartbeats 4000000 in
set_option maxRecDepth 100000 in
theorem c_AL_isEmpty {D : va_G} {s0 : State} {l : Launch} {h : gH} (B0 : gB D s0) {a w : Nat} {L : List Nat} (ha : isAL D h a w L) (hL : L.length ≤ 1600) : gMet D s0 l y_AL_isEmpty b_AL_isEmpty 1 (some .boolean) ({ frames := 0, cells := 0, slots := 0, locals := 0 } : Room) [.ref a] h (fun v h' => some (.int (iZ (if L.length = 0 then 1 else 0))) = v ∧ h = h') := by
  obtain ⟨e0, mc, fA, hc⟩ := id ha
  refine g_enter B0 (plainFor_of_name (by decide)) (Nat.le_of_ble_eq_true rfl) (fun p e s m below meth c ls X hnm hl => ?_)
  have hl : lv_has ls 1 [(0, .ref a)] := hl
  refine g_1 (fun w => lv_aload_n X.1 X.2.1 d_AL_isEmpty_0 rfl (lv_at hl 0 rfl) w) ?_
  refine g_get X (ci := 3) rfl fA 1 (by decide) ⟨rfl, rfl⟩ tw_44 (Or.inl rfl) rfl d_AL_isEmpty_1 ?_
  refine g_if_ne (tgt := 11) X (⟨by omega, by omega⟩) d_AL_isEmpty_4 (by decide) (fun c4 => ?_) (fun c4 => ?_)
  · refine g_1 (fun w => lv_iconst (v := iZ 0) X.1 X.2.1 d_AL_isEmpty_11 rfl w) ?_
    exact g_zret X rfl (⟨g_ei (by split <;> omega), rfl⟩) (by decide) (by decide) d_AL_isEmpty_12
  · refine g_1 (fun w => lv_iconst (v := iZ 1) X.1 X.2.1 d_AL_isEmpty_7 rfl w) ?_
    refine g_goto (tgt := 12) X d_AL_isEmpty_8 (by decide) ?_
    exact g_zret X rfl (⟨g_ei (by split <;> omega), rfl⟩) (by decide) (by decide) d_AL_isEmpty_12

set_option maxHeartbeats 4000000 in
set_option maxRecDepth 100000 in
theorem c_AL_elementData {D : va_G} {s0 : State} {l : Launch} {h : gH} (B0 : gB D s0) {a w : Nat} {L : List Nat} (ha : isAL D h a w L) (i : Nat) (hi : i < L.length) : gMet D s0 l y_AL_elementData b_AL_elementData 2 (some (.object "java/lang/Object")) ({ frames := 0, cells := 0, slots := 0, locals := 0 } : Room) [.ref a, .int (iZ (i))] h (fun v h' => some (.ref (L.getD i 0)) = v ∧ h = h') := by
  obtain ⟨e0, mc, fA, hc⟩ := id ha
  rcases hc with ⟨-, rfl⟩ | ⟨cap, f, fE, hc1, hc2, hc3, hc4⟩
  · exact absurd hi (Nat.not_lt_zero _)
  refine g_enter B0 (plainFor_of_name (by decide)) (Nat.le_of_ble_eq_true rfl) (fun p e s m below meth c ls X hnm hl => ?_)
  have hl : lv_has ls 2 [(0, .ref a), (1, .int (iZ (i)))] := hl
  refine g_1 (fun w => lv_aload_n X.1 X.2.1 d_AL_elementData_0 rfl (lv_at hl 0 rfl) w) ?_
  refine g_get X (ci := 3) rfl fA 0 (by decide) ⟨rfl, rfl⟩ tw_43 (Or.inl rfl) rfl d_AL_elementData_1 ?_
  refine g_1 (fun w => lv_iload_n X.1 X.2.1 d_AL_elementData_4 rfl (lv_at hl 1 rfl) w) ?_
  refine g_ald X fE (i) (rfl) (by omega) (by omega) d_AL_elementData_5 ?_
  exact g_aret X (Or.inl ⟨_, rfl⟩) (⟨by rw [hc4 i hi]; rfl, rfl⟩) (by decide) (by decide) d_AL_elementData_6

set_option maxHeartbeats 4000000 in
set_option maxRecDepth 100000 in
theorem c_AL_get {D : va_G} {s0 : State} {l : Launch} {h : gH} (B0 : gB D s0) {a w : Nat} {L : List Nat} (ha : isAL D h a w L) (i : Nat) (hi : i < L.length) : gMet D s0 l y_AL_get b_AL_get 2 (some (.object "java/lang/Object")) ({ frames := 2, cells := 0, slots := 0, locals := 43 } : Room) [.ref a, .int (iZ (i))] h (fun v h' => some (.ref (L.getD i 0)) = v ∧ h = h') := by
  obtain ⟨e0, mc, fA, hc⟩ := id ha
  rcases hc with ⟨-, rfl⟩ | ⟨cap, f, fE, hc1, hc2, hc3, hc4⟩
  · exact absurd hi (Nat.not_lt_zero _)
  refine g_enter B0 (plainFor_of_name (by decide)) (Nat.le_of_ble_eq_true rfl) (fun p e s m below meth c ls X hnm hl => ?_)
  have hl : lv_has ls 2 [(0, .ref a), (1, .int (iZ (i)))] := hl
  refine g_1 (fun w => lv_iload_n X.1 X.2.1 d_AL_get_0 rfl (lv_at hl 1 rfl) w) ?_
  refine g_1 (fun w => lv_aload_n X.1 X.2.1 d_AL_get_1 rfl (lv_at hl 0 rfl) w) ?_
  refine g_get X (ci := 3) rfl fA 1 (by decide) ⟨rfl, rfl⟩ tw_44 (Or.inl rfl) rfl d_AL_get_2 ?_
  refine g_callS (na := 2) X (c_OJ_checkIndex B0 (by omega) (by omega) (by omega)) rfl ⟨⟨tw_94, tw_6⟩, ⟨by decide, by decide, by decide +kernel⟩, by decide, by decide⟩ tw_92 tw_93 rfl hl.1 (Nat.le_of_ble_eq_true rfl) ⟨by decide, by decide⟩ d_AL_get_5 (fun v h' hp => ?_)
  obtain ⟨rfl, rfl⟩ := hp
  refine g_widen (k' := 0) (n' := 0) (by decide) (by decide) ?_
  show G D s0 p l e _ s m _ below meth c h _ _ _ (F0 m 8 ls [.int (iZ (i))])
  refine g_1 (fun w => lv_pop X.1 X.2.1 d_AL_get_8 rfl w) ?_
  refine g_1 (fun w => lv_aload_n X.1 X.2.1 d_AL_get_9 rfl (lv_at hl 0 rfl) w) ?_
  refine g_1 (fun w => lv_iload_n X.1 X.2.1 d_AL_get_10 rfl (lv_at hl 1 rfl) w) ?_
  refine g_callV (na := 1) X (c_AL_elementData B0 ha i hi) rfl fA rfl ⟨⟨tw_101, tw_4⟩, ⟨by decide, by decide, by decide +kernel⟩, by decide, by decide⟩ tw_98 tw_99 tw_100 rfl hl.1 (Nat.le_of_ble_eq_true rfl) ⟨by decide, by decide⟩ d_AL_get_11 (fun v h' hp => ?_)
  obtain ⟨rfl, rfl⟩ := hp
  refine g_widen (k' := 0) (n' := 0) (by decide) (by decide) ?_
  show G D s0 p l e _ s m _ below meth c h _ _ _ (F0 m 14 ls [.ref (L.getD i 0)])
  exact g_aret (r := some (L.getD i 0)) X (Or.inl ⟨_, rfl⟩) (⟨rfl, rfl⟩) (by decide) (by decide) d_AL_get_14

set_option maxHeartbeats 4000000 in
set_option maxRecDepth 100000 in
theorem c_AC_init {D : va_G} {s0 : State} {l : Launch} {h : gH} (B0 : gB D s0) {a : Nat} : gMet D s0 l y_AC_init b_AC_init 1 none ({ frames := 1, cells := 0, slots := 0, locals := 12 } : Room) [.ref a] h (fun v h' => none = v ∧ h = h') := by
  refine g_enter B0 (plainFor_of_name (by decide)) (Nat.le_of_ble_eq_true rfl) (fun p e s m below meth c ls X hnm hl => ?_)
  have hl : lv_has ls 1 [(0, .ref a)] := hl
  refine g_1 (fun w => lv_aload_n X.1 X.2.1 d_AC_init_0 rfl (lv_at hl 0 rfl) w) ?_
  refine g_obj X tw_40 hl.1 d_AC_init_1 (by decide) (by decide) ?_
  exact g_vret X (⟨rfl, rfl⟩) (by decide) (by decide) d_AC_init_4

set_option maxHeartbeats 4000000 in
set_option maxRecDepth 100000 in
theorem c_AB_init {D : va_G} {s0 : State} {l : Launch} {h : gH} (B0 : gB D s0) {a w : Nat} (fA : h a = some ((5, w), .inr (3, [.null, .int (iZ 0), .int (iZ 0)]))) : gMet D s0 l y_AB_init b_AB_init 1 none ({ frames := 2, cells := 0, slots := 0, locals := 32 } : Room) [.ref a] h (fun v h' => none = v ∧ h = h') := by
  refine g_enter B0 (plainFor_of_name (by decide)) (Nat.le_of_ble_eq_true rfl) (fun p e s m below meth c ls X hnm hl => ?_)
  have hl : lv_has ls 1 [(0, .ref a)] := hl
  refine g_1 (fun w => lv_aload_n X.1 X.2.1 d_AB_init_0 rfl (lv_at hl 0 rfl) w) ?_
  refine g_callI (na := 0) X (c_AC_init B0) rfl rfl ⟨⟨tw_39, tw_2⟩, ⟨by decide, by decide, by decide +kernel⟩, by decide, by decide⟩ tw_37 tw_38 rfl hl.1 (Nat.le_of_ble_eq_true rfl) ⟨by decide, by decide⟩ d_AB_init_1 (fun v h' hp => ?_)
  obtain ⟨rfl, rfl⟩ := hp
  refine g_widen (k' := 0) (n' := 0) (by decide) (by decide) ?_
  show G D s0 p l e _ s m _ below meth c h _ _ _ (F0 m 4 ls [])
  refine g_1 (fun w => lv_aload_n X.1 X.2.1 d_AB_init_4 rfl (lv_at hl 0 rfl) w) ?_
  refine g_1 (fun w => lv_iconst (v := iZ 0) X.1 X.2.1 d_AB_init_5 rfl w) ?_
  refine g_put X (ci := 3) rfl fA (Nat.succ_ne_zero _) 2 (by decide) ⟨rfl, rfl⟩ tw_45 (Or.inl rfl) rfl rfl rfl (Nat.le_of_ble_eq_true rfl) d_AB_init_6 ?_
  obtain ⟨h_1, eh_1⟩ : ∃ z, z = g_up h a ((5, w), .inr (3, [.null, .int (iZ (0)), .int (iZ (0))])) := ⟨_, rfl⟩
  refine g_h (h' := h_1) eh_1.symm ?_
  have f_2 : h_1 a = some ((5, w), .inr (3, [.null, .int (iZ (0)), .int (iZ (0))])) := by rw [eh_1]; exact g_us
  exact g_vret X (⟨rfl, by rw [eh_1]; exact (g_id fA).symm⟩) (by decide) (by decide) d_AB_init_9

set_option maxHeartbeats 4000000 in
set_option maxRecDepth 100000 in
theorem c_AL_init {D : va_G} {s0 : State} {l : Launch} {h : gH} (B0 : gB D s0) {a w : Nat} (fA : h a = some ((5, w), .inr (3, [.null, .int (iZ 0), .int (iZ 0)]))) : gMet D s0 l y_AL_init b_AL_init 1 none ({ frames := 3, cells := 0, slots := 0, locals := 52 } : Room) [.ref a] h (fun v h' => none = v ∧ isAL D h' a w [] ∧ kp (fun q t => q = a) h h') := by
  refine g_enter B0 (plainFor_of_name (by decide)) (Nat.le_of_ble_eq_true rfl) (fun p e s m below meth c ls X hnm hl => ?_)
  have hl : lv_has ls 1 [(0, .ref a)] := hl
  refine g_1 (fun w => lv_aload_n X.1 X.2.1 d_AL_init_0 rfl (lv_at hl 0 rfl) w) ?_
  refine g_callI (na := 0) X (c_AB_init B0 fA) rfl rfl ⟨⟨tw_36, tw_3⟩, ⟨by decide, by decide, by decide +kernel⟩, by decide, by decide⟩ tw_34 tw_35 rfl hl.1 (Nat.le_of_ble_eq_true rfl) ⟨by decide, by decide⟩ d_AL_init_1 (fun v h' hp => ?_)
  obtain ⟨rfl, rfl⟩ := hp
  refine g_widen (k' := 0) (n' := 0) (by decide) (by decide) ?_
  show G D s0 p l e _ s m _ below meth c h _ _ _ (F0 m 4 ls [])
  refine g_1 (fun w => lv_aload_n X.1 X.2.1 d_AL_init_4 rfl (lv_at hl 0 rfl) w) ?_
  refine g_gets X tw_41 d_AL_init_5 ?_
  refine g_put X (ci := 3) rfl fA (Nat.succ_ne_zero _) 0 (by decide) ⟨rfl, rfl⟩ tw_43 (Or.inl rfl) rfl rfl rfl (Nat.le_of_ble_eq_true rfl) d_AL_init_8 ?_
  obtain ⟨h_1, eh_1⟩ : ∃ z, z = g_up h a ((5, w), .inr (3, [.ref (D.1 200), .int (iZ (0)), .int (iZ (0))])) := ⟨_, rfl⟩
  refine g_h (h' := h_1) eh_1.symm ?_
  have f_2 : h_1 a = some ((5, w), .inr (3, [.ref (D.1 200), .int (iZ (0)), .int (iZ (0))])) := by rw [eh_1]; exact g_us
  have hk_3 := kp_up (kp_rf (P := (fun q t => q = a)) (h := h)) eh_1 fA (rfl)
  exact g_vret X (⟨rfl, ⟨D.1 200, 0, f_2, Or.inl ⟨rfl, rfl⟩⟩, hk_3⟩) (by decide) (by decide) d_AL_init_11

set_option maxHeartbeats 4000000 in
set_option maxRecDepth 100000 in
theorem c_AS_newLength {D : va_G} {s0 : State} {l : Launch} {h : gH} (B0 : gB D s0) {z x y : Int} (hz : 0 < z) (hz2 : z ≤ 100000) (hx : 0 ≤ x) (hx2 : x ≤ 100000) (hy : 0 ≤ y) (hy2 : y ≤ 100000) : gMet D s0 l y_AS_newLength b_AS_newLength 4 (some .int) ({ frames := 1, cells := 0, slots := 0, locals := 21 } : Room) [.int (iZ (z)), .int (iZ (x)), .int (iZ (y))] h (fun v h' => some (.int (iZ (z + max x y))) = v ∧ h = h') := by
  refine g_enter B0 (plainFor_of_name (by decide)) (Nat.le_of_ble_eq_true rfl) (fun p e s m below meth c ls X hnm hl => ?_)
  have hl : lv_has ls 4 [(0, .int (iZ (z))), (1, .int (iZ (x))), (2, .int (iZ (y)))] := hl
  refine g_1 (fun w => lv_iload_n X.1 X.2.1 d_AS_newLength_0 rfl (lv_at hl 0 rfl) w) ?_
  refine g_1 (fun w => lv_iload_n X.1 X.2.1 d_AS_newLength_1 rfl (lv_at hl 1 rfl) w) ?_
  refine g_1 (fun w => lv_iload_n X.1 X.2.1 d_AS_newLength_2 rfl (lv_at hl 2 rfl) w) ?_
  refine g_callS (na := 2) X (c_MA_max B0 ⟨by omega, by omega⟩ ⟨by omega, by omega⟩) rfl ⟨⟨tw_240, tw_14⟩, ⟨by decide, by decide, by decide +kernel⟩, by decide, by decide⟩ tw_238 tw_239 rfl hl.1 (Nat.le_of_ble_eq_true rfl) ⟨by decide, by decide⟩ d_AS_newLength_3 (fun v h' hp => ?_)
  obtain ⟨rfl, rfl⟩ := hp
  refine g_widen (k' := 0) (n' := 0) (by decide) (by decide) ?_
  show G D s0 p l e _ s m _ below meth c h _ _ _ (F0 m 6 ls [.int (iZ (max x y)), .int (iZ (z))])
  refine g_iadd X d_AS_newLength_6 ?_
  refine g_s (fun kk => lv_istore_n (lv' := [(3, .int (iZ (z + (max x y)))), (0, .int (iZ (z))), (1, .int (iZ (x))), (2, .int (iZ (y)))]) X.1 X.2.1 d_AS_newLength_7 rfl hl (by decide) rfl kk) (fun ls hl => ?_)
  refine g_1 (fun w => lv_iconst (v := iZ 0) X.1 X.2.1 d_AS_newLength_8 rfl w) ?_
  refine g_1 (fun w => lv_iload_n X.1 X.2.1 d_AS_newLength_9 rfl (lv_at hl 0 rfl) w) ?_
  refine g_icmp_ge (tgt := 21) X (⟨by omega, by omega⟩) (⟨by omega, by omega⟩) d_AS_newLength_10 (by decide) (fun c10 => ?_) (fun c10 => ?_)
  · exfalso
    omega
  · refine g_1 (fun w => lv_iload_n X.1 X.2.1 d_AS_newLength_13 rfl (lv_at hl 0 rfl) w) ?_
    refine g_1 (fun w => lv_ldc X.1 X.2.1 X.2.2.2.2.2.1 (X.w tw_241 rfl) d_AS_newLength_14 w) ?_
    refine g_ti (show _ = iZ 2147483639 by decide) ?_
    refine g_icmp_gt (tgt := 21) X (⟨by omega, by omega⟩) (⟨by omega, by omega⟩) d_AS_newLength_16 (by decide) (fun c16 => ?_) (fun c16 => ?_)
    · exfalso
      omega
    · refine g_1 (fun w => lv_iload_n X.1 X.2.1 d_AS_newLength_19 rfl (lv_at hl 0 rfl) w) ?_
      exact g_iret X (⟨rfl, rfl⟩) (by decide) (by decide) d_AS_newLength_20

set_option maxHeartbeats 4000000 in
set_option maxRecDepth 100000 in
theorem c_AR_copyOf3 {D : va_G} {s0 : State} {l : Launch} {h : gH} (B0 : gB D s0) {e0 w cap N : Nat} {f : Nat → Option Nat} (fE : h e0 = some ((14, w), gO D cap f)) (h1 : cap ≤ N) (h2 : N ≤ 1600) (hel : ∀ j, j < cap → ∀ y, f j = some y → g_ob h y) : gMet D s0 l y_AR_copyOf3 b_AR_copyOf3 4 (some (.array (.object "java/lang/Object"))) ({ frames := 1, cells := 1, slots := 1600, locals := 40 } : Room) [.ref e0, .int (iZ (N)), .ref (D.1 201)] h (fun v h' => ∃ na : Nat, h na = none ∧ some (.ref na) = v ∧ g_up h na ((14, w), gO D N (fun j => if j < cap then f j else none)) = h') := by
  refine g_enter B0 (plainFor_of_name (by decide)) (Nat.le_of_ble_eq_true rfl) (fun p e s m below meth c ls X hnm hl => ?_)
  have hl : lv_has ls 4 [(0, .ref e0), (1, .int (iZ (N))), (2, .ref (D.1 201))] := hl
  refine g_1 (fun w => lv_aload_n X.1 X.2.1 d_AR_copyOf3_0 rfl (lv_at hl 2 rfl) w) ?_
  refine g_ldcM X tw_263 d_AR_copyOf3_1 ?_
  refine g_acmpF (tgt := 13) X d_AR_copyOf3_3 (by decide) ?_
  refine g_1 (fun w => lv_iload_n X.1 X.2.1 d_AR_copyOf3_6 rfl (lv_at hl 1 rfl) w) ?_
  refine g_newo X tw_265 (N) (rfl) (by omega) (fun z => (14, w)) (by decide) (by show 0 + N ≤ 1600; omega) d_AR_copyOf3_7 (fun na_1 hfna_1 => ?_)
  obtain ⟨h_2, eh_2⟩ : ∃ z, z = g_up h na_1 ((14, w), gO D N (fun _ => none)) := ⟨_, rfl⟩
  refine g_h (h' := h_2) eh_2.symm ?_
  have f_3 : h_2 e0 = some ((14, w), gO D cap (f)) := by rw [eh_2]; exact g_uf fE hfna_1
  have f_4 : h_2 na_1 = some ((14, w), gO D N (fun _ => none)) := by rw [eh_2]; exact g_us
  refine g_goto (tgt := 24) X d_AR_copyOf3_10 (by decide) ?_
  refine g_s (fun kk => lv_astore_n (lv' := [(3, .ref na_1), (0, .ref e0), (1, .int (iZ (N))), (2, .ref (D.1 201))]) X.1 X.2.1 d_AR_copyOf3_24 rfl hl (by decide) rfl kk) (fun ls hl => ?_)
  refine g_1 (fun w => lv_aload_n X.1 X.2.1 d_AR_copyOf3_25 rfl (lv_at hl 1 rfl) w) ?_
  refine g_1 (fun w => lv_iconst (v := iZ 0) X.1 X.2.1 d_AR_copyOf3_26 rfl w) ?_
  refine g_1 (fun w => lv_aload_n X.1 X.2.1 d_AR_copyOf3_27 rfl (lv_at hl 0 rfl) w) ?_
  refine g_1 (fun w => lv_iconst (v := iZ 0) X.1 X.2.1 d_AR_copyOf3_28 rfl w) ?_
  refine g_1 (fun w => lv_aload_n X.1 X.2.1 d_AR_copyOf3_29 rfl (lv_at hl 1 rfl) w) ?_
  refine g_aleno X f_3 d_AR_copyOf3_30 ?_
  refine g_1 (fun w => lv_iload_n X.1 X.2.1 d_AR_copyOf3_31 rfl (lv_at hl 2 rfl) w) ?_
  refine g_callS (na := 2) X (c_MA_min B0 ⟨by omega, by omega⟩ ⟨by omega, by omega⟩) rfl ⟨⟨tw_268, tw_14⟩, ⟨by decide, by decide, by decide +kernel⟩, by decide, by decide⟩ tw_266 tw_267 rfl hl.1 (Nat.le_of_ble_eq_true rfl) ⟨by decide, by show 0 + N + 0 ≤ 1600; omega⟩ d_AR_copyOf3_32 (fun v h' hp => ?_)
  obtain ⟨rfl, rfl⟩ := hp
  
  show G D s0 p l e _ s m _ below meth c h_2 _ _ _ (F0 m 35 ls [.int (iZ (min (cap : Int) N)), .int (iZ (0)), .ref na_1, .int (iZ (0)), .ref e0])
  refine g_copy X (N := cap) f_3 f_4 (Nat.succ_ne_zero _) tw_269 (by omega) (by omega) (by omega) (by omega) (fun j hj y hy => g_ob_new (hel j hj y hy) eh_2 hfna_1) hl.1 (by decide) (Nat.le_of_ble_eq_true rfl) d_AR_copyOf3_35 ?_
  obtain ⟨h_5, eh_5⟩ : ∃ z, z = g_up h_2 na_1 ((14, w), gO D N (fun j => if j < cap then (f) j else (fun _ => none) j)) := ⟨_, rfl⟩
  refine g_h (h' := h_5) eh_5.symm ?_
  have f_6 : h_5 e0 = some ((14, w), gO D cap (f)) := by rw [eh_5]; exact (g_un (g_nz fE hfna_1)).trans f_3
  have f_7 : h_5 na_1 = some ((14, w), gO D N (fun j => if j < cap then (f) j else (fun _ => none) j)) := by rw [eh_5]; exact g_us
  refine g_1 (fun w => lv_aload_n X.1 X.2.1 d_AR_copyOf3_38 rfl (lv_at hl 0 rfl) w) ?_
  exact g_aret (r := some (na_1)) X (Or.inr ⟨_, rfl⟩) (⟨na_1, hfna_1, rfl, by rw [eh_5, eh_2, g_uu]⟩) (by decide) (by show 0 + N ≤ 1600; omega) d_AR_copyOf3_39
