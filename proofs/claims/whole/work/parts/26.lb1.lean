theorem if_1 {p : Prop} [Decidable p] (h : (if p then (1 : Int) else 0) ≠ 0) : p := by
  rcases Classical.em p with z | z
  · exact z
  · rw [if_neg z] at h; exact absurd rfl h
theorem if_0 {p : Prop} [Decidable p] (h : (if p then (1 : Int) else 0) = 0) : ¬ p := by
  intro z
  rw [if_pos z] at h
  exact absurd h (by decide)

set_option maxHeartbeats 4000000 in
set_option maxRecDepth 100000 in
theorem c_LB_hasBlock {D : va_G} {s0 : State} {l : Launch} {h : gH} (B0 : gB D s0) {x : Nat} {A Y : List Nat} {bs : Nat → Blk} {ys : Nat → Lay} {pn tb : Int} (hx : isLB D h x A bs Y ys pn tb) (hAl : A.length ≤ 1024) (hYl : Y.length ≤ 64) {i : Int} (hi : i_ok i) : gMet D s0 l y_LB_hasBlock b_LB_hasBlock 2 (some .boolean) ({ frames := 1, cells := 0, slots := 0, locals := 20 } : Room) [.ref x, .int (iZ (i))] h (fun v h' => some (.int (iZ (if 0 ≤ i ∧ i < A.length then 1 else 0))) = v ∧ h = h') := by
  obtain ⟨bl, yl, fX, hA, hY, hbs, hys, hnd, hnd2⟩ := id hx
  obtain ⟨eb, mb, fbl, -⟩ := id hA
  obtain ⟨ey, my, fyl, -⟩ := id hY
  obtain ⟨hi1, hi2⟩ := id hi
  refine g_enter B0 (plainFor_of_name (by decide)) (Nat.le_of_ble_eq_true rfl) (fun p e s m below meth c ls X hnm hl => ?_)
  have hl : lv_has ls 2 [(0, .ref x), (1, .int (iZ (i)))] := hl
  refine g_1 (fun w => lv_iload_n X.1 X.2.1 d_LB_hasBlock_0 rfl (lv_at hl 1 rfl) w) ?_
  refine g_if_lt (tgt := 19) X (by first | (split <;> exact ⟨by omega, by omega⟩) | exact ⟨by omega, by omega⟩ | exact cmpZ_ok _ _) d_LB_hasBlock_1 (by decide) (fun c1 => ?_) (fun c1 => ?_)
  · refine g_1 (fun w => lv_iconst (v := iZ 0) X.1 X.2.1 d_LB_hasBlock_19 rfl w) ?_
    exact g_zret X rfl (⟨g_ei (by split <;> omega), rfl⟩) (by decide) (by decide) d_LB_hasBlock_20
  · refine g_1 (fun w => lv_iload_n X.1 X.2.1 d_LB_hasBlock_4 rfl (lv_at hl 1 rfl) w) ?_
    refine g_1 (fun w => lv_aload_n X.1 X.2.1 d_LB_hasBlock_5 rfl (lv_at hl 0 rfl) w) ?_
    refine g_get X (ci := 0) rfl fX 0 (by decide) ⟨rfl, rfl⟩ tw_55 (Or.inl rfl) rfl d_LB_hasBlock_6 ?_
    refine g_callV (na := 0) X (c_AL_size B0 hA) rfl fbl rfl ⟨⟨tw_87, tw_4⟩, ⟨by decide, by decide, by decide +kernel⟩, by decide, by decide⟩ tw_84 tw_85 tw_86 rfl hl.1 (Nat.le_of_ble_eq_true rfl) ⟨by decide, by decide⟩ d_LB_hasBlock_9 (fun v h' hp => ?_)
    obtain ⟨rfl, rfl⟩ := hp
    refine g_widen (k' := 0) (n' := 0) (by decide) (by decide) ?_
    show G D s0 p l e _ s m _ below meth c h _ _ _ (F0 m 12 ls [.int (iZ (A.length)), .int (iZ (i))])
    refine g_icmp_ge (tgt := 19) X (by first | (split <;> exact ⟨by omega, by omega⟩) | exact ⟨by omega, by omega⟩ | exact cmpZ_ok _ _) (by first | (split <;> exact ⟨by omega, by omega⟩) | exact ⟨by omega, by omega⟩ | exact cmpZ_ok _ _) d_LB_hasBlock_12 (by decide) (fun c12 => ?_) (fun c12 => ?_)
    · refine g_1 (fun w => lv_iconst (v := iZ 0) X.1 X.2.1 d_LB_hasBlock_19 rfl w) ?_
      exact g_zret X rfl (⟨g_ei (by split <;> omega), rfl⟩) (by decide) (by decide) d_LB_hasBlock_20
    · refine g_1 (fun w => lv_iconst (v := iZ 1) X.1 X.2.1 d_LB_hasBlock_15 rfl w) ?_
      refine g_goto (tgt := 20) X d_LB_hasBlock_16 (by decide) ?_
      exact g_zret X rfl (⟨g_ei (by split <;> omega), rfl⟩) (by decide) (by decide) d_LB_hasBlock_20

set_option maxHeartbeats 4000000 in
set_option maxRecDepth 100000 in
theorem c_LB_hasLayer {D : va_G} {s0 : State} {l : Launch} {h : gH} (B0 : gB D s0) {x : Nat} {A Y : List Nat} {bs : Nat → Blk} {ys : Nat → Lay} {pn tb : Int} (hx : isLB D h x A bs Y ys pn tb) (hAl : A.length ≤ 1024) (hYl : Y.length ≤ 64) {i : Int} (hi : i_ok i) : gMet D s0 l y_LB_hasLayer b_LB_hasLayer 2 (some .boolean) ({ frames := 1, cells := 0, slots := 0, locals := 20 } : Room) [.ref x, .int (iZ (i))] h (fun v h' => some (.int (iZ (if 0 ≤ i ∧ i < Y.length then 1 else 0))) = v ∧ h = h') := by
  obtain ⟨bl, yl, fX, hA, hY, hbs, hys, hnd, hnd2⟩ := id hx
  obtain ⟨eb, mb, fbl, -⟩ := id hA
  obtain ⟨ey, my, fyl, -⟩ := id hY
  obtain ⟨hi1, hi2⟩ := id hi
  refine g_enter B0 (plainFor_of_name (by decide)) (Nat.le_of_ble_eq_true rfl) (fun p e s m below meth c ls X hnm hl => ?_)
  have hl : lv_has ls 2 [(0, .ref x), (1, .int (iZ (i)))] := hl
  refine g_1 (fun w => lv_iload_n X.1 X.2.1 d_LB_hasLayer_0 rfl (lv_at hl 1 rfl) w) ?_
  refine g_if_lt (tgt := 19) X (by first | (split <;> exact ⟨by omega, by omega⟩) | exact ⟨by omega, by omega⟩ | exact cmpZ_ok _ _) d_LB_hasLayer_1 (by decide) (fun c1 => ?_) (fun c1 => ?_)
  · refine g_1 (fun w => lv_iconst (v := iZ 0) X.1 X.2.1 d_LB_hasLayer_19 rfl w) ?_
    exact g_zret X rfl (⟨g_ei (by split <;> omega), rfl⟩) (by decide) (by decide) d_LB_hasLayer_20
  · refine g_1 (fun w => lv_iload_n X.1 X.2.1 d_LB_hasLayer_4 rfl (lv_at hl 1 rfl) w) ?_
    refine g_1 (fun w => lv_aload_n X.1 X.2.1 d_LB_hasLayer_5 rfl (lv_at hl 0 rfl) w) ?_
    refine g_get X (ci := 0) rfl fX 1 (by decide) ⟨rfl, rfl⟩ tw_56 (Or.inl rfl) rfl d_LB_hasLayer_6 ?_
    refine g_callV (na := 0) X (c_AL_size B0 hY) rfl fyl rfl ⟨⟨tw_87, tw_4⟩, ⟨by decide, by decide, by decide +kernel⟩, by decide, by decide⟩ tw_84 tw_85 tw_86 rfl hl.1 (Nat.le_of_ble_eq_true rfl) ⟨by decide, by decide⟩ d_LB_hasLayer_9 (fun v h' hp => ?_)
    obtain ⟨rfl, rfl⟩ := hp
    refine g_widen (k' := 0) (n' := 0) (by decide) (by decide) ?_
    show G D s0 p l e _ s m _ below meth c h _ _ _ (F0 m 12 ls [.int (iZ (Y.length)), .int (iZ (i))])
    refine g_icmp_ge (tgt := 19) X (by first | (split <;> exact ⟨by omega, by omega⟩) | exact ⟨by omega, by omega⟩ | exact cmpZ_ok _ _) (by first | (split <;> exact ⟨by omega, by omega⟩) | exact ⟨by omega, by omega⟩ | exact cmpZ_ok _ _) d_LB_hasLayer_12 (by decide) (fun c12 => ?_) (fun c12 => ?_)
    · refine g_1 (fun w => lv_iconst (v := iZ 0) X.1 X.2.1 d_LB_hasLayer_19 rfl w) ?_
      exact g_zret X rfl (⟨g_ei (by split <;> omega), rfl⟩) (by decide) (by decide) d_LB_hasLayer_20
    · refine g_1 (fun w => lv_iconst (v := iZ 1) X.1 X.2.1 d_LB_hasLayer_15 rfl w) ?_
      refine g_goto (tgt := 20) X d_LB_hasLayer_16 (by decide) ?_
      exact g_zret X rfl (⟨g_ei (by split <;> omega), rfl⟩) (by decide) (by decide) d_LB_hasLayer_20

set_option maxHeartbeats 4000000 in
set_option maxRecDepth 100000 in
theorem c_LB_layers {D : va_G} {s0 : State} {l : Launch} {h : gH} (B0 : gB D s0) {x : Nat} {A Y : List Nat} {bs : Nat → Blk} {ys : Nat → Lay} {pn tb : Int} (hx : isLB D h x A bs Y ys pn tb) (hAl : A.length ≤ 1024) (hYl : Y.length ≤ 64) : gMet D s0 l y_LB_layers b_LB_layers 1 (some .int) ({ frames := 1, cells := 0, slots := 0, locals := 20 } : Room) [.ref x] h (fun v h' => some (.int (iZ Y.length)) = v ∧ h = h') := by
  obtain ⟨bl, yl, fX, hA, hY, hbs, hys, hnd, hnd2⟩ := id hx
  obtain ⟨eb, mb, fbl, -⟩ := id hA
  obtain ⟨ey, my, fyl, -⟩ := id hY
  refine g_enter B0 (plainFor_of_name (by decide)) (Nat.le_of_ble_eq_true rfl) (fun p e s m below meth c ls X hnm hl => ?_)
  have hl : lv_has ls 1 [(0, .ref x)] := hl
  refine g_1 (fun w => lv_aload_n X.1 X.2.1 d_LB_layers_0 rfl (lv_at hl 0 rfl) w) ?_
  refine g_get X (ci := 0) rfl fX 1 (by decide) ⟨rfl, rfl⟩ tw_56 (Or.inl rfl) rfl d_LB_layers_1 ?_
  refine g_callV (na := 0) X (c_AL_size B0 hY) rfl fyl rfl ⟨⟨tw_87, tw_4⟩, ⟨by decide, by decide, by decide +kernel⟩, by decide, by decide⟩ tw_84 tw_85 tw_86 rfl hl.1 (Nat.le_of_ble_eq_true rfl) ⟨by decide, by decide⟩ d_LB_layers_4 (fun v h' hp => ?_)
  obtain ⟨rfl, rfl⟩ := hp
  refine g_widen (k' := 0) (n' := 0) (by decide) (by decide) ?_
  show G D s0 p l e _ s m _ below meth c h _ _ _ (F0 m 7 ls [.int (iZ (Y.length))])
  exact g_iret X (⟨rfl, rfl⟩) (by decide) (by decide) d_LB_layers_7

set_option maxHeartbeats 4000000 in
set_option maxRecDepth 100000 in
theorem c_LB_total {D : va_G} {s0 : State} {l : Launch} {h : gH} (B0 : gB D s0) (hfl : l.flags = flags0) {x : Nat} {A Y : List Nat} {bs : Nat → Blk} {ys : Nat → Lay} {pn tb : Int} (hx : isLB D h x A bs Y ys pn tb) (hAl : A.length ≤ 1024) (hYl : Y.length ≤ 64) {i : Int} (hi : i_ok i) : gMetX D s0 l y_LB_total b_LB_total 2 (some .int) ({ frames := 6, cells := 1, slots := 6, locals := 105 } : Room) [.ref x, .int (iZ (i))] h (fun v h' => ∃ j : Nat, (j : Int) = i ∧ j < Y.length ∧ some (.int (iZ (ys j).2.2.1)) = v ∧ h = h') (fun C h' => C = "java/lang/IndexOutOfBoundsException" ∧ ¬ (0 ≤ i ∧ i < Y.length) ∧ h = h') := by
  obtain ⟨bl, yl, fX, hA, hY, hbs, hys, hnd, hnd2⟩ := id hx
  obtain ⟨eb, mb, fbl, -⟩ := id hA
  obtain ⟨ey, my, fyl, -⟩ := id hY
  obtain ⟨hi1, hi2⟩ := id hi
  refine g_enterX B0 (plainFor_of_name (by decide)) (Nat.le_of_ble_eq_true rfl) (fun p e s m below meth c ls X hxt hnm hl => ?_)
  have hl : lv_has ls 2 [(0, .ref x), (1, .int (iZ (i)))] := hl
  refine g_1 (fun w => lv_aload_n X.1 X.2.1 d_LB_total_0 rfl (lv_at hl 0 rfl) w) ?_
  refine g_1 (fun w => lv_iload_n X.1 X.2.1 d_LB_total_1 rfl (lv_at hl 1 rfl) w) ?_
  refine g_callV (na := 1) X (c_LB_hasLayer B0 hx hAl hYl ⟨by omega, by omega⟩) rfl fX rfl ⟨⟨tw_479, tw_1⟩, ⟨by decide, by decide, by decide +kernel⟩, by decide, by decide⟩ tw_476 tw_478 ts_LB_hasLayer rfl hl.1 (Nat.le_of_ble_eq_true rfl) ⟨by decide, by decide⟩ d_LB_total_2 (fun v h' hp => ?_)
  obtain ⟨rfl, rfl⟩ := hp
  refine g_widen (k' := 0) (n' := 0) (by decide) (by decide) ?_
  show G D s0 p l e _ s m _ below meth c h _ _ _ (F0 m 5 ls [.int (iZ (if 0 ≤ i ∧ i < Y.length then 1 else 0))])
  refine g_if_ne (tgt := 18) X (by first | (split <;> exact ⟨by omega, by omega⟩) | exact ⟨by omega, by omega⟩ | exact cmpZ_ok _ _) d_LB_total_5 (by decide) (fun c5 => ?_) (fun c5 => ?_)
  · obtain ⟨yi, rfl, hyi⟩ : ∃ yi : Nat, (yi : Int) = i ∧ yi < Y.length := ⟨i.toNat, by have z := if_1 c5; omega, by have z := if_1 c5; omega⟩
    obtain ⟨q1, fy, fq⟩ := id (hys yi hyi)
    refine g_1 (fun w => lv_aload_n X.1 X.2.1 d_LB_total_18 rfl (lv_at hl 0 rfl) w) ?_
    refine g_get X (ci := 0) rfl fX 1 (by decide) ⟨rfl, rfl⟩ tw_56 (Or.inl rfl) rfl d_LB_total_19 ?_
    refine g_1 (fun w => lv_iload_n X.1 X.2.1 d_LB_total_22 rfl (lv_at hl 1 rfl) w) ?_
    refine g_callV (na := 1) X (c_AL_get B0 hY yi (by omega)) rfl fyl rfl ⟨⟨tw_91, tw_4⟩, ⟨by decide, by decide, by decide +kernel⟩, by decide, by decide⟩ tw_88 tw_89 tw_90 rfl hl.1 (Nat.le_of_ble_eq_true rfl) ⟨by decide, by decide⟩ d_LB_total_23 (fun v h' hp => ?_)
    obtain ⟨rfl, rfl⟩ := hp
    refine g_widen (k' := 0) (n' := 0) (by decide) (by decide) ?_
    show G D s0 p l e _ s m _ below meth c h _ _ _ (F0 m 26 ls [.ref (Y.getD yi 0)])
    refine g_cast X fy rfl tw_389 tw_653 d_LB_total_26 ?_
    refine g_getN X (ci := 2) rfl fy 1 (by decide) ⟨rfl, rfl⟩ tw_398 rfl d_LB_total_29 ?_
    exact g_rx (g_iret X (⟨yi, rfl, hyi, rfl, rfl⟩) (by decide) (by decide) d_LB_total_32)
  · exact g_throw X hfl hxt (i1 := 88) (i2 := 130) (i3 := 92) g_oa_IX (by decide +kernel) tw_351 tw_352 tw_19 (tx := "no such layer") (by decide) (⟨rfl, if_0 c5, rfl⟩) hl.1 (by decide) (by decide) ⟨by decide, by decide⟩ ⟨by decide, by decide⟩ d_LB_total_8 d_LB_total_11 d_LB_total_12 d_LB_total_14 d_LB_total_17

set_option maxHeartbeats 4000000 in
set_option maxRecDepth 100000 in
theorem c_LB_threshold {D : va_G} {s0 : State} {l : Launch} {h : gH} (B0 : gB D s0) (hfl : l.flags = flags0) {x : Nat} {A Y : List Nat} {bs : Nat → Blk} {ys : Nat → Lay} {pn tb : Int} (hx : isLB D h x A bs Y ys pn tb) (hAl : A.length ≤ 1024) (hYl : Y.length ≤ 64) (hyo : ∀ j, j < Y.length → i_ok (ys j).2.2.2.2) {i z : Int} (hi : i_ok i) (hz : i_ok z) : gMetX D s0 l y_LB_threshold b_LB_threshold 4 (some .long) ({ frames := 6, cells := 1, slots := 6, locals := 105 } : Room) [.ref x, .int (iZ (i)), .int (iZ (z))] h (fun v h' => ∃ j : Nat, (j : Int) = i ∧ j < Y.length ∧ (z = 0 ∨ z = 1) ∧ some (.long (lZ (if z = 0 then (ys j).2.2.2.1 else (ys j).2.2.2.2))) = v ∧ h = h') (fun C h' => ((C = "java/lang/IllegalArgumentException" ∧ ¬ (z = 0 ∨ z = 1)) ∨ (C = "java/lang/IndexOutOfBoundsException" ∧ (z = 0 ∨ z = 1) ∧ ¬ (0 ≤ i ∧ i < Y.length))) ∧ h = h') := by
  obtain ⟨bl, yl, fX, hA, hY, hbs, hys, hnd, hnd2⟩ := id hx
  obtain ⟨eb, mb, fbl, -⟩ := id hA
  obtain ⟨ey, my, fyl, -⟩ := id hY
  obtain ⟨hi1, hi2⟩ := id hi
  obtain ⟨hz1, hz2⟩ := id hz
  refine g_enterX B0 (plainFor_of_name (by decide)) (Nat.le_of_ble_eq_true rfl) (fun p e s m below meth c ls X hxt hnm hl => ?_)
  have hl : lv_has ls 4 [(0, .ref x), (1, .int (iZ (i))), (2, .int (iZ (z)))] := hl
  refine g_1 (fun w => lv_iload_n X.1 X.2.1 d_LB_threshold_0 rfl (lv_at hl 2 rfl) w) ?_
  refine g_if_eq (tgt := 19) X (by first | (split <;> exact ⟨by omega, by omega⟩) | exact ⟨by omega, by omega⟩ | exact cmpZ_ok _ _) d_LB_threshold_1 (by decide) (fun c1 => ?_) (fun c1 => ?_)
  · refine g_1 (fun w => lv_aload_n X.1 X.2.1 d_LB_threshold_19 rfl (lv_at hl 0 rfl) w) ?_
    refine g_1 (fun w => lv_iload_n X.1 X.2.1 d_LB_threshold_20 rfl (lv_at hl 1 rfl) w) ?_
    refine g_callV (na := 1) X (c_LB_hasLayer B0 hx hAl hYl ⟨by omega, by omega⟩) rfl fX rfl ⟨⟨tw_479, tw_1⟩, ⟨by decide, by decide, by decide +kernel⟩, by decide, by decide⟩ tw_476 tw_478 ts_LB_hasLayer rfl hl.1 (Nat.le_of_ble_eq_true rfl) ⟨by decide, by decide⟩ d_LB_threshold_21 (fun v h' hp => ?_)
    obtain ⟨rfl, rfl⟩ := hp
    refine g_widen (k' := 0) (n' := 0) (by decide) (by decide) ?_
    show G D s0 p l e _ s m _ below meth c h _ _ _ (F0 m 24 ls [.int (iZ (if 0 ≤ i ∧ i < Y.length then 1 else 0))])
    refine g_if_ne (tgt := 37) X (by first | (split <;> exact ⟨by omega, by omega⟩) | exact ⟨by omega, by omega⟩ | exact cmpZ_ok _ _) d_LB_threshold_24 (by decide) (fun c24 => ?_) (fun c24 => ?_)
    · obtain ⟨yi, rfl, hyi⟩ : ∃ yi : Nat, (yi : Int) = i ∧ yi < Y.length := ⟨i.toNat, by have z := if_1 c24; omega, by have z := if_1 c24; omega⟩
      obtain ⟨q1, fy, fq⟩ := id (hys yi hyi)
      refine g_1 (fun w => lv_aload_n X.1 X.2.1 d_LB_threshold_37 rfl (lv_at hl 0 rfl) w) ?_
      refine g_get X (ci := 0) rfl fX 1 (by decide) ⟨rfl, rfl⟩ tw_56 (Or.inl rfl) rfl d_LB_threshold_38 ?_
      refine g_1 (fun w => lv_iload_n X.1 X.2.1 d_LB_threshold_41 rfl (lv_at hl 1 rfl) w) ?_
      refine g_callV (na := 1) X (c_AL_get B0 hY yi (by omega)) rfl fyl rfl ⟨⟨tw_91, tw_4⟩, ⟨by decide, by decide, by decide +kernel⟩, by decide, by decide⟩ tw_88 tw_89 tw_90 rfl hl.1 (Nat.le_of_ble_eq_true rfl) ⟨by decide, by decide⟩ d_LB_threshold_42 (fun v h' hp => ?_)
      obtain ⟨rfl, rfl⟩ := hp
      refine g_widen (k' := 0) (n' := 0) (by decide) (by decide) ?_
      show G D s0 p l e _ s m _ below meth c h _ _ _ (F0 m 45 ls [.ref (Y.getD yi 0)])
      refine g_cast X fy rfl tw_389 tw_653 d_LB_threshold_45 ?_
      refine g_s (fun kk => lv_astore_n (lv' := [(3, .ref (Y.getD yi 0)), (0, .ref x), (1, .int (iZ (yi))), (2, .int (iZ (z)))]) X.1 X.2.1 d_LB_threshold_48 rfl hl (by decide) rfl kk) (fun ls hl => ?_)
      refine g_1 (fun w => lv_iload_n X.1 X.2.1 d_LB_threshold_49 rfl (lv_at hl 3 rfl) w) ?_
      refine g_if_ne (tgt := 60) X (by first | (split <;> exact ⟨by omega, by omega⟩) | exact ⟨by omega, by omega⟩ | exact cmpZ_ok _ _) d_LB_threshold_50 (by decide) (fun c50 => ?_) (fun c50 => ?_)
      · refine g_1 (fun w => lv_aload_n X.1 X.2.1 d_LB_threshold_60 rfl (lv_at hl 0 rfl) w) ?_
        refine g_getN X (ci := 2) rfl fy 3 (by decide) ⟨rfl, rfl⟩ tw_402 rfl d_LB_threshold_61 ?_
        refine g_i2l X (by first | exact hyo _ hyi | (split <;> exact ⟨by omega, by omega⟩) | exact ⟨by omega, by omega⟩ | exact cmpZ_ok _ _) d_LB_threshold_64 ?_
        exact g_rx (g_lret X (⟨yi, rfl, hyi, by omega, by rw [if_neg c50], rfl⟩) (by decide) (by decide) d_LB_threshold_65)
      · refine g_1 (fun w => lv_aload_n X.1 X.2.1 d_LB_threshold_53 rfl (lv_at hl 0 rfl) w) ?_
        refine g_getN X (ci := 2) rfl fy 2 (by decide) ⟨rfl, rfl⟩ tw_400 rfl d_LB_threshold_54 ?_
        refine g_goto (tgt := 65) X d_LB_threshold_57 (by decide) ?_
        exact g_rx (g_lret X (⟨yi, rfl, hyi, by omega, by rw [if_pos c50], rfl⟩) (by decide) (by decide) d_LB_threshold_65)
    · exact g_throw X hfl hxt (i1 := 88) (i2 := 130) (i3 := 92) g_oa_IX (by decide +kernel) tw_351 tw_352 tw_19 (tx := "no such layer") (by decide) (⟨Or.inr ⟨rfl, by omega, if_0 c24⟩, rfl⟩) hl.1 (by decide) (by decide) ⟨by decide, by decide⟩ ⟨by decide, by decide⟩ d_LB_threshold_27 d_LB_threshold_30 d_LB_threshold_31 d_LB_threshold_33 d_LB_threshold_36
  · refine g_1 (fun w => lv_iload_n X.1 X.2.1 d_LB_threshold_4 rfl (lv_at hl 2 rfl) w) ?_
    refine g_1 (fun w => lv_iconst (v := iZ 1) X.1 X.2.1 d_LB_threshold_5 rfl w) ?_
    refine g_icmp_eq (tgt := 19) X (by first | (split <;> exact ⟨by omega, by omega⟩) | exact ⟨by omega, by omega⟩ | exact cmpZ_ok _ _) (by first | (split <;> exact ⟨by omega, by omega⟩) | exact ⟨by omega, by omega⟩ | exact cmpZ_ok _ _) d_LB_threshold_6 (by decide) (fun c6 => ?_) (fun c6 => ?_)
    · refine g_1 (fun w => lv_aload_n X.1 X.2.1 d_LB_threshold_19 rfl (lv_at hl 0 rfl) w) ?_
      refine g_1 (fun w => lv_iload_n X.1 X.2.1 d_LB_threshold_20 rfl (lv_at hl 1 rfl) w) ?_
      refine g_callV (na := 1) X (c_LB_hasLayer B0 hx hAl hYl ⟨by omega, by omega⟩) rfl fX rfl ⟨⟨tw_479, tw_1⟩, ⟨by decide, by decide, by decide +kernel⟩, by decide, by decide⟩ tw_476 tw_478 ts_LB_hasLayer rfl hl.1 (Nat.le_of_ble_eq_true rfl) ⟨by decide, by decide⟩ d_LB_threshold_21 (fun v h' hp => ?_)
      obtain ⟨rfl, rfl⟩ := hp
      refine g_widen (k' := 0) (n' := 0) (by decide) (by decide) ?_
      show G D s0 p l e _ s m _ below meth c h _ _ _ (F0 m 24 ls [.int (iZ (if 0 ≤ i ∧ i < Y.length then 1 else 0))])
      refine g_if_ne (tgt := 37) X (by first | (split <;> exact ⟨by omega, by omega⟩) | exact ⟨by omega, by omega⟩ | exact cmpZ_ok _ _) d_LB_threshold_24 (by decide) (fun c24 => ?_) (fun c24 => ?_)
      · obtain ⟨yi, rfl, hyi⟩ : ∃ yi : Nat, (yi : Int) = i ∧ yi < Y.length := ⟨i.toNat, by have z := if_1 c24; omega, by have z := if_1 c24; omega⟩
        obtain ⟨q1, fy, fq⟩ := id (hys yi hyi)
        refine g_1 (fun w => lv_aload_n X.1 X.2.1 d_LB_threshold_37 rfl (lv_at hl 0 rfl) w) ?_
        refine g_get X (ci := 0) rfl fX 1 (by decide) ⟨rfl, rfl⟩ tw_56 (Or.inl rfl) rfl d_LB_threshold_38 ?_
        refine g_1 (fun w => lv_iload_n X.1 X.2.1 d_LB_threshold_41 rfl (lv_at hl 1 rfl) w) ?_
        refine g_callV (na := 1) X (c_AL_get B0 hY yi (by omega)) rfl fyl rfl ⟨⟨tw_91, tw_4⟩, ⟨by decide, by decide, by decide +kernel⟩, by decide, by decide⟩ tw_88 tw_89 tw_90 rfl hl.1 (Nat.le_of_ble_eq_true rfl) ⟨by decide, by decide⟩ d_LB_threshold_42 (fun v h' hp => ?_)
        obtain ⟨rfl, rfl⟩ := hp
        refine g_widen (k' := 0) (n' := 0) (by decide) (by decide) ?_
        show G D s0 p l e _ s m _ below meth c h _ _ _ (F0 m 45 ls [.ref (Y.getD yi 0)])
        refine g_cast X fy rfl tw_389 tw_653 d_LB_threshold_45 ?_
        refine g_s (fun kk => lv_astore_n (lv' := [(3, .ref (Y.getD yi 0)), (0, .ref x), (1, .int (iZ (yi))), (2, .int (iZ (z)))]) X.1 X.2.1 d_LB_threshold_48 rfl hl (by decide) rfl kk) (fun ls hl => ?_)
        refine g_1 (fun w => lv_iload_n X.1 X.2.1 d_LB_threshold_49 rfl (lv_at hl 3 rfl) w) ?_
        refine g_if_ne (tgt := 60) X (by first | (split <;> exact ⟨by omega, by omega⟩) | exact ⟨by omega, by omega⟩ | exact cmpZ_ok _ _) d_LB_threshold_50 (by decide) (fun c50 => ?_) (fun c50 => ?_)
        · refine g_1 (fun w => lv_aload_n X.1 X.2.1 d_LB_threshold_60 rfl (lv_at hl 0 rfl) w) ?_
          refine g_getN X (ci := 2) rfl fy 3 (by decide) ⟨rfl, rfl⟩ tw_402 rfl d_LB_threshold_61 ?_
          refine g_i2l X (by first | exact hyo _ hyi | (split <;> exact ⟨by omega, by omega⟩) | exact ⟨by omega, by omega⟩ | exact cmpZ_ok _ _) d_LB_threshold_64 ?_
          exact g_rx (g_lret X (⟨yi, rfl, hyi, by omega, by rw [if_neg c50], rfl⟩) (by decide) (by decide) d_LB_threshold_65)
        · refine g_1 (fun w => lv_aload_n X.1 X.2.1 d_LB_threshold_53 rfl (lv_at hl 0 rfl) w) ?_
          refine g_getN X (ci := 2) rfl fy 2 (by decide) ⟨rfl, rfl⟩ tw_400 rfl d_LB_threshold_54 ?_
          refine g_goto (tgt := 65) X d_LB_threshold_57 (by decide) ?_
          exact g_rx (g_lret X (⟨yi, rfl, hyi, by omega, by rw [if_pos c50], rfl⟩) (by decide) (by decide) d_LB_threshold_65)
      · exact g_throw X hfl hxt (i1 := 88) (i2 := 130) (i3 := 92) g_oa_IX (by decide +kernel) tw_351 tw_352 tw_19 (tx := "no such layer") (by decide) (⟨Or.inr ⟨rfl, by omega, if_0 c24⟩, rfl⟩) hl.1 (by decide) (by decide) ⟨by decide, by decide⟩ ⟨by decide, by decide⟩ d_LB_threshold_27 d_LB_threshold_30 d_LB_threshold_31 d_LB_threshold_33 d_LB_threshold_36
    · exact g_throw X hfl hxt (i1 := 51) (i2 := 83) (i3 := 55) g_oa_IA (by decide +kernel) tw_286 tw_287 tw_17 (tx := "no such w") (by decide) (⟨Or.inl ⟨rfl, by omega⟩, rfl⟩) hl.1 (by decide) (by decide) ⟨by decide, by decide⟩ ⟨by decide, by decide⟩ d_LB_threshold_9 d_LB_threshold_12 d_LB_threshold_13 d_LB_threshold_15 d_LB_threshold_18

set_option maxHeartbeats 4000000 in
set_option maxRecDepth 100000 in
theorem c_LB_cut {D : va_G} {s0 : State} {l : Launch} {h : gH} (B0 : gB D s0) (hfl : l.flags = flags0) {x : Nat} {A Y : List Nat} {bs : Nat → Blk} {ys : Nat → Lay} {pn tb : Int} (hx : isLB D h x A bs Y ys pn tb) (hAl : A.length ≤ 1024) (hYl : Y.length ≤ 64) (hbo : ∀ i, i < A.length → okB (bs i)) (hyo : ∀ j, j < Y.length → (ys j).1 = A.length) {i z : Int} (hi : i_ok i) (hz : i_ok z) : gMetX D s0 l y_LB_cut b_LB_cut 3 (some .int) ({ frames := 6, cells := 1, slots := 6, locals := 105 } : Room) [.ref x, .int (iZ (i)), .int (iZ (z))] h (fun v h' => ∃ j b : Nat, (j : Int) = i ∧ (b : Int) = z ∧ j < Y.length ∧ b < A.length ∧ some (.int (iZ ((ys j).2.1 b))) = v ∧ h = h') (fun C h' => ((C = "java/lang/IllegalArgumentException" ∧ ¬ (0 ≤ z ∧ z < A.length)) ∨ (C = "java/lang/IndexOutOfBoundsException" ∧ (0 ≤ z ∧ z < A.length) ∧ ¬ (0 ≤ i ∧ i < Y.length))) ∧ h = h') := by
  obtain ⟨bl, yl, fX, hA, hY, hbs, hys, hnd, hnd2⟩ := id hx
  obtain ⟨eb, mb, fbl, -⟩ := id hA
  obtain ⟨ey, my, fyl, -⟩ := id hY
  obtain ⟨hi1, hi2⟩ := id hi
  obtain ⟨hz1, hz2⟩ := id hz
  refine g_enterX B0 (plainFor_of_name (by decide)) (Nat.le_of_ble_eq_true rfl) (fun p e s m below meth c ls X hxt hnm hl => ?_)
  have hl : lv_has ls 3 [(0, .ref x), (1, .int (iZ (i))), (2, .int (iZ (z)))] := hl
  refine g_1 (fun w => lv_aload_n X.1 X.2.1 d_LB_cut_0 rfl (lv_at hl 0 rfl) w) ?_
  refine g_1 (fun w => lv_iload_n X.1 X.2.1 d_LB_cut_1 rfl (lv_at hl 2 rfl) w) ?_
  refine g_callV (na := 1) X (c_LB_hasBlock B0 hx hAl hYl ⟨by omega, by omega⟩) rfl fX rfl ⟨⟨tw_285, tw_1⟩, ⟨by decide, by decide, by decide +kernel⟩, by decide, by decide⟩ tw_282 tw_284 ts_LB_hasBlock rfl hl.1 (Nat.le_of_ble_eq_true rfl) ⟨by decide, by decide⟩ d_LB_cut_2 (fun v h' hp => ?_)
  obtain ⟨rfl, rfl⟩ := hp
  refine g_widen (k' := 0) (n' := 0) (by decide) (by decide) ?_
  show G D s0 p l e _ s m _ below meth c h _ _ _ (F0 m 5 ls [.int (iZ (if 0 ≤ z ∧ z < A.length then 1 else 0))])
  refine g_if_ne (tgt := 18) X (by first | (split <;> exact ⟨by omega, by omega⟩) | exact ⟨by omega, by omega⟩ | exact cmpZ_ok _ _) d_LB_cut_5 (by decide) (fun c5 => ?_) (fun c5 => ?_)
  · obtain ⟨bi, rfl, hbi⟩ : ∃ bi : Nat, (bi : Int) = z ∧ bi < A.length := ⟨z.toNat, by have z := if_1 c5; omega, by have z := if_1 c5; omega⟩
    obtain ⟨p1, p2, p3, fb, fB, fG, fC⟩ := id (hbs bi hbi)
    obtain ⟨k1, k2, k3, k4, k5, k6, k7, k8⟩ := id (hbo bi hbi)
    refine g_1 (fun w => lv_aload_n X.1 X.2.1 d_LB_cut_18 rfl (lv_at hl 0 rfl) w) ?_
    refine g_1 (fun w => lv_iload_n X.1 X.2.1 d_LB_cut_19 rfl (lv_at hl 1 rfl) w) ?_
    refine g_callV (na := 1) X (c_LB_hasLayer B0 hx hAl hYl ⟨by omega, by omega⟩) rfl fX rfl ⟨⟨tw_479, tw_1⟩, ⟨by decide, by decide, by decide +kernel⟩, by decide, by decide⟩ tw_476 tw_478 ts_LB_hasLayer rfl hl.1 (Nat.le_of_ble_eq_true rfl) ⟨by decide, by decide⟩ d_LB_cut_20 (fun v h' hp => ?_)
    obtain ⟨rfl, rfl⟩ := hp
    refine g_widen (k' := 0) (n' := 0) (by decide) (by decide) ?_
    show G D s0 p l e _ s m _ below meth c h _ _ _ (F0 m 23 ls [.int (iZ (if 0 ≤ i ∧ i < Y.length then 1 else 0))])
    refine g_if_ne (tgt := 36) X (by first | (split <;> exact ⟨by omega, by omega⟩) | exact ⟨by omega, by omega⟩ | exact cmpZ_ok _ _) d_LB_cut_23 (by decide) (fun c23 => ?_) (fun c23 => ?_)
    · obtain ⟨yi, rfl, hyi⟩ : ∃ yi : Nat, (yi : Int) = i ∧ yi < Y.length := ⟨i.toNat, by have z := if_1 c23; omega, by have z := if_1 c23; omega⟩
      obtain ⟨q1, fy, fq⟩ := id (hys yi hyi)
      have hyo1 := hyo yi hyi
      refine g_1 (fun w => lv_aload_n X.1 X.2.1 d_LB_cut_36 rfl (lv_at hl 0 rfl) w) ?_
      refine g_get X (ci := 0) rfl fX 1 (by decide) ⟨rfl, rfl⟩ tw_56 (Or.inl rfl) rfl d_LB_cut_37 ?_
      refine g_1 (fun w => lv_iload_n X.1 X.2.1 d_LB_cut_40 rfl (lv_at hl 1 rfl) w) ?_
      refine g_callV (na := 1) X (c_AL_get B0 hY yi (by omega)) rfl fyl rfl ⟨⟨tw_91, tw_4⟩, ⟨by decide, by decide, by decide +kernel⟩, by decide, by decide⟩ tw_88 tw_89 tw_90 rfl hl.1 (Nat.le_of_ble_eq_true rfl) ⟨by decide, by decide⟩ d_LB_cut_41 (fun v h' hp => ?_)
      obtain ⟨rfl, rfl⟩ := hp
      refine g_widen (k' := 0) (n' := 0) (by decide) (by decide) ?_
      show G D s0 p l e _ s m _ below meth c h _ _ _ (F0 m 44 ls [.ref (Y.getD yi 0)])
      refine g_cast X fy rfl tw_389 tw_653 d_LB_cut_44 ?_
      refine g_getN X (ci := 2) rfl fy 0 (by decide) ⟨rfl, rfl⟩ tw_397 rfl d_LB_cut_47 ?_
      refine g_1 (fun w => lv_iload_n X.1 X.2.1 d_LB_cut_50 rfl (lv_at hl 2 rfl) w) ?_
      refine g_ild X fq (bi) (rfl) (by omega) (by omega) d_LB_cut_51 ?_
      exact g_rx (g_iret X (⟨yi, bi, rfl, rfl, hyi, hbi, rfl, rfl⟩) (by decide) (by decide) d_LB_cut_52)
    · exact g_throw X hfl hxt (i1 := 88) (i2 := 130) (i3 := 92) g_oa_IX (by decide +kernel) tw_351 tw_352 tw_19 (tx := "no such layer") (by decide) (⟨Or.inr ⟨rfl, by omega, if_0 c23⟩, rfl⟩) hl.1 (by decide) (by decide) ⟨by decide, by decide⟩ ⟨by decide, by decide⟩ d_LB_cut_26 d_LB_cut_29 d_LB_cut_30 d_LB_cut_32 d_LB_cut_35
  · exact g_throw X hfl hxt (i1 := 51) (i2 := 53) (i3 := 55) g_oa_IA (by decide +kernel) tw_286 tw_287 tw_17 (tx := "no such block") (by decide) (⟨Or.inl ⟨rfl, if_0 c5⟩, rfl⟩) hl.1 (by decide) (by decide) ⟨by decide, by decide⟩ ⟨by decide, by decide⟩ d_LB_cut_8 d_LB_cut_11 d_LB_cut_12 d_LB_cut_14 d_LB_cut_17
