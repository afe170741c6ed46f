set_option maxHeartbeats 4000000 in
set_option maxRecDepth 100000 in
/-- Long.compare -/
theorem c_LG_compare {D : va_G} {s0 : State} {l : Launch} {h : gH} (B0 : gB D s0) {x y : Int} (hx : l_ok x) (hy : l_ok y) : gMet D s0 l y_LG_compare b_LG_compare 4 (some .int) ({ frames := 0, cells := 0, slots := 0, locals := 0 } : Room) [.long (lZ (x)), .long (lZ (y))] h (fun v h' => some (.int (iZ (cmpZ x y))) = v ∧ h = h') := by
  refine g_enter B0 (plainFor_of_name (by decide)) (Nat.le_of_ble_eq_true rfl) (fun p e s m below meth c ls X hnm hl => ?_)
  have hl : lv_has ls 4 [(0, .long (lZ (x))), (2, .long (lZ (y)))] := hl
  refine g_1 (fun w => lv_lload_n X.1 X.2.1 d_LG_compare_0 rfl (lv_at hl 0 rfl) w) ?_
  refine g_1 (fun w => lv_lload_n X.1 X.2.1 d_LG_compare_1 rfl (lv_at hl 1 rfl) w) ?_
  refine g_lcmp X (by assumption) (by assumption) d_LG_compare_2 ?_
  refine g_if_ge (tgt := 10) X (cmpZ_ok _ _) d_LG_compare_3 (by decide) (fun c3 => ?_) (fun c3 => ?_)
  · refine g_1 (fun w => lv_lload_n X.1 X.2.1 d_LG_compare_10 rfl (lv_at hl 0 rfl) w) ?_
    refine g_1 (fun w => lv_lload_n X.1 X.2.1 d_LG_compare_11 rfl (lv_at hl 1 rfl) w) ?_
    refine g_lcmp X (by assumption) (by assumption) d_LG_compare_12 ?_
    refine g_if_ne (tgt := 20) X (cmpZ_ok _ _) d_LG_compare_13 (by decide) (fun c13 => ?_) (fun c13 => ?_)
    · refine g_1 (fun w => lv_iconst (v := iZ 1) X.1 X.2.1 d_LG_compare_20 rfl w) ?_
      exact g_iret X (⟨g_ei (by unfold cmpZ at *; split at * <;> (try split) <;> omega), rfl⟩) (by decide) (by decide) d_LG_compare_21
    · refine g_1 (fun w => lv_iconst (v := iZ 0) X.1 X.2.1 d_LG_compare_16 rfl w) ?_
      refine g_goto (tgt := 21) X d_LG_compare_17 (by decide) ?_
      exact g_iret X (⟨g_ei (by unfold cmpZ at *; split at * <;> (try split) <;> omega), rfl⟩) (by decide) (by decide) d_LG_compare_21
  · refine g_1 (fun w => lv_iconst (v := iZ (-1)) X.1 X.2.1 d_LG_compare_6 rfl w) ?_
    refine g_goto (tgt := 21) X d_LG_compare_7 (by decide) ?_
    exact g_iret X (⟨g_ei (by unfold cmpZ at *; split at * <;> (try split) <;> omega), rfl⟩) (by decide) (by decide) d_LG_compare_21

set_option maxHeartbeats 4000000 in
set_option maxRecDepth 100000 in
/-- Math.max -/
theorem c_MA_max {D : va_G} {s0 : State} {l : Launch} {h : gH} (B0 : gB D s0) {x y : Int} (hx : i_ok x) (hy : i_ok y) : gMet D s0 l y_MA_max b_MA_max 2 (some .int) ({ frames := 0, cells := 0, slots := 0, locals := 0 } : Room) [.int (iZ (x)), .int (iZ (y))] h (fun v h' => some (.int (iZ (max x y))) = v ∧ h = h') := by
  refine g_enter B0 (by decide +kernel) (Nat.le_of_ble_eq_true rfl) (fun p e s m below meth c ls X hnm hl => ?_)
  have hl : lv_has ls 2 [(0, .int (iZ (x))), (1, .int (iZ (y)))] := hl
  refine g_1 (fun w => lv_iload_n X.1 X.2.1 d_MA_max_0 rfl (lv_at hl 0 rfl) w) ?_
  refine g_1 (fun w => lv_iload_n X.1 X.2.1 d_MA_max_1 rfl (lv_at hl 1 rfl) w) ?_
  refine g_icmp_lt (tgt := 9) X (by assumption) (by assumption) d_MA_max_2 (by decide) (fun c2 => ?_) (fun c2 => ?_)
  · refine g_1 (fun w => lv_iload_n X.1 X.2.1 d_MA_max_9 rfl (lv_at hl 1 rfl) w) ?_
    exact g_iret X (⟨g_ei (by omega), rfl⟩) (by decide) (by decide) d_MA_max_10
  · refine g_1 (fun w => lv_iload_n X.1 X.2.1 d_MA_max_5 rfl (lv_at hl 0 rfl) w) ?_
    refine g_goto (tgt := 10) X d_MA_max_6 (by decide) ?_
    exact g_iret X (⟨g_ei (by omega), rfl⟩) (by decide) (by decide) d_MA_max_10

set_option maxHeartbeats 4000000 in
set_option maxRecDepth 100000 in
/-- Math.min -/
theorem c_MA_min {D : va_G} {s0 : State} {l : Launch} {h : gH} (B0 : gB D s0) {x y : Int} (hx : i_ok x) (hy : i_ok y) : gMet D s0 l y_MA_min b_MA_min 2 (some .int) ({ frames := 0, cells := 0, slots := 0, locals := 0 } : Room) [.int (iZ (x)), .int (iZ (y))] h (fun v h' => some (.int (iZ (min x y))) = v ∧ h = h') := by
  refine g_enter B0 (by decide +kernel) (Nat.le_of_ble_eq_true rfl) (fun p e s m below meth c ls X hnm hl => ?_)
  have hl : lv_has ls 2 [(0, .int (iZ (x))), (1, .int (iZ (y)))] := hl
  refine g_1 (fun w => lv_iload_n X.1 X.2.1 d_MA_min_0 rfl (lv_at hl 0 rfl) w) ?_
  refine g_1 (fun w => lv_iload_n X.1 X.2.1 d_MA_min_1 rfl (lv_at hl 1 rfl) w) ?_
  refine g_icmp_gt (tgt := 9) X (by assumption) (by assumption) d_MA_min_2 (by decide) (fun c2 => ?_) (fun c2 => ?_)
  · refine g_1 (fun w => lv_iload_n X.1 X.2.1 d_MA_min_9 rfl (lv_at hl 1 rfl) w) ?_
    exact g_iret X (⟨g_ei (by omega), rfl⟩) (by decide) (by decide) d_MA_min_10
  · refine g_1 (fun w => lv_iload_n X.1 X.2.1 d_MA_min_5 rfl (lv_at hl 0 rfl) w) ?_
    refine g_goto (tgt := 10) X d_MA_min_6 (by decide) ?_
    exact g_iret X (⟨g_ei (by omega), rfl⟩) (by decide) (by decide) d_MA_min_10

set_option maxHeartbeats 4000000 in
set_option maxRecDepth 100000 in
/-- compareSlopes -/
theorem c_LB_compareSlopes {D : va_G} {s0 : State} {l : Launch} {h : gH} (B0 : gB D s0) {g1 n1 g2 n2 : Int} (h1 : i_ok n1) (h2 : i_ok n2) (h3 : l_ok (g1 * n2)) (h4 : l_ok (g2 * n1)) : gMet D s0 l y_LB_compareSlopes b_LB_compareSlopes 6 (some .int) ({ frames := 1, cells := 0, slots := 0, locals := 23 } : Room) [.long (lZ (g1)), .int (iZ (n1)), .long (lZ (g2)), .int (iZ (n2))] h (fun v h' => some (.int (iZ (cmpZ (g1 * n2) (g2 * n1)))) = v ∧ h = h') := by
  refine g_enter B0 (plainFor_of_name (by decide)) (Nat.le_of_ble_eq_true rfl) (fun p e s m below meth c ls X hnm hl => ?_)
  have hl : lv_has ls 6 [(0, .long (lZ (g1))), (2, .int (iZ (n1))), (3, .long (lZ (g2))), (5, .int (iZ (n2)))] := hl
  refine g_1 (fun w => lv_lload_n X.1 X.2.1 d_LB_compareSlopes_0 rfl (lv_at hl 0 rfl) w) ?_
  refine g_1 (fun w => lv_iload X.1 X.2.1 d_LB_compareSlopes_1 (lv_at hl 3 rfl) w) ?_
  refine g_i2l X (by assumption) d_LB_compareSlopes_3 ?_
  refine g_lmul X d_LB_compareSlopes_4 ?_
  refine g_1 (fun w => lv_lload_n X.1 X.2.1 d_LB_compareSlopes_5 rfl (lv_at hl 2 rfl) w) ?_
  refine g_1 (fun w => lv_iload_n X.1 X.2.1 d_LB_compareSlopes_6 rfl (lv_at hl 1 rfl) w) ?_
  refine g_i2l X (by assumption) d_LB_compareSlopes_7 ?_
  refine g_lmul X d_LB_compareSlopes_8 ?_
  refine g_callS (na := 2) X (c_LG_compare B0 (by assumption) (by assumption)) rfl ⟨⟨tw_337, tw_18⟩, ⟨by decide, by decide, by decide +kernel⟩, by decide, by decide⟩ tw_335 tw_336 rfl hl.1 (by decide) ⟨by decide, by decide⟩ d_LB_compareSlopes_9 (fun v h' hp => ?_)
  obtain ⟨rfl, rfl⟩ := hp
  refine g_widen (k' := 0) (n' := 0) (by decide) (by decide) ?_
  show G D s0 p l e _ s m _ below meth c h _ _ _ (F0 m 12 ls [.int (iZ (cmpZ (g1 * n2) (g2 * n1)))])
  exact g_iret X (⟨rfl, rfl⟩) (by decide) (by decide) d_LB_compareSlopes_12
