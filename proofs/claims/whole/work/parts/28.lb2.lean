set_option maxHeartbeats 4000000 in
set_option maxRecDepth 100000 in
theorem c_LB_gain {D : va_G} {s0 : State} {l : Launch} {h : gH} (B0 : gB D s0) (hfl : l.flags = flags0) {x : Nat} {A Y : List Nat} {bs : Nat → Blk} {ys : Nat → Lay} {pn tb : Int} (hx : isLB D h x A bs Y ys pn tb) (hAl : A.length ≤ 1024) (hYl : Y.length ≤ 64) (hbo : ∀ i, i < A.length → okB (bs i)) {i j : Int} (hi : i_ok i) (hj : i_ok j) : gMetX D s0 l y_LB_gain b_LB_gain 4 (some .long) ({ frames := 6, cells := 1, slots := 6, locals := 105 } : Room) [.ref x, .int (iZ (i)), .int (iZ (j))] h (fun v h' => ∃ b k : Nat, (b : Int) = i ∧ (k : Int) = j ∧ b < A.length ∧ k < bS (bs b) ∧ some (.long (lZ (bG (bs b) (bC (bs b) (k + 1)) - bG (bs b) (bC (bs b) k)))) = v ∧ h = h') (fun C h' => ((C = "java/lang/IllegalArgumentException" ∧ ¬ (0 ≤ i ∧ i < A.length)) ∨ (C = "java/lang/IndexOutOfBoundsException" ∧ ∃ b : Nat, (b : Int) = i ∧ b < A.length ∧ ¬ (0 ≤ j ∧ j < bS (bs b)))) ∧ h = h') := by
  obtain ⟨bl, yl, fX, hA, hY, hbs, hys, hnd, hnd2⟩ := id hx
  obtain ⟨eb, mb, fbl, -⟩ := id hA
  obtain ⟨ey, my, fyl, -⟩ := id hY
  obtain ⟨hi1, hi2⟩ := id hi
  obtain ⟨hj1, hj2⟩ := id hj
  refine g_enterX B0 (plainFor_of_name (by decide)) (Nat.le_of_ble_eq_true rfl) (fun p e s m below meth c ls X hxt hnm hl => ?_)
  have hl : lv_has ls 4 [(0, .ref x), (1, .int (iZ (i))), (2, .int (iZ (j)))] := hl
  refine g_1 (fun w => lv_aload_n X.1 X.2.1 d_LB_gain_0 rfl (lv_at hl 0 rfl) w) ?_
  refine g_1 (fun w => lv_iload_n X.1 X.2.1 d_LB_gain_1 rfl (lv_at hl 1 rfl) w) ?_
  refine g_callV (na := 1) X (c_LB_hasBlock B0 hx hAl hYl ⟨by omega, by omega⟩) rfl fX rfl ⟨⟨tw_285, tw_1⟩, ⟨by decide, by decide, by decide +kernel⟩, by decide, by decide⟩ tw_282 tw_284 ts_LB_hasBlock rfl hl.1 (Nat.le_of_ble_eq_true rfl) ⟨by decide, by decide⟩ d_LB_gain_2 (fun v h' hp => ?_)
  obtain ⟨rfl, rfl⟩ := hp
  refine g_widen (k' := 0) (n' := 0) (by decide) (by decide) ?_
  show G D s0 p l e _ s m _ below meth c h _ _ _ (F0 m 5 ls [.int (iZ (if 0 ≤ i ∧ i < A.length then 1 else 0))])
  refine g_if_ne (tgt := 18) X (by first | (split <;> exact ⟨by omega, by omega⟩) | exact ⟨by omega, by omega⟩ | exact cmpZ_ok _ _) d_LB_gain_5 (by decide) (fun c5 => ?_) (fun c5 => ?_)
  · obtain ⟨bi, rfl, hbi⟩ : ∃ bi : Nat, (bi : Int) = i ∧ bi < A.length := ⟨i.toNat, by have z := if_1 c5; omega, by have z := if_1 c5; omega⟩
    obtain ⟨p1, p2, p3, fb, fB, fG, fC⟩ := id (hbs bi hbi)
    obtain ⟨k1, k2, k3, k4, k5, k6, k7, k8⟩ := id (hbo bi hbi)
    refine g_1 (fun w => lv_aload_n X.1 X.2.1 d_LB_gain_18 rfl (lv_at hl 0 rfl) w) ?_
    refine g_get X (ci := 0) rfl fX 0 (by decide) ⟨rfl, rfl⟩ tw_55 (Or.inl rfl) rfl d_LB_gain_19 ?_
    refine g_1 (fun w => lv_iload_n X.1 X.2.1 d_LB_gain_22 rfl (lv_at hl 1 rfl) w) ?_
    refine g_callV (na := 1) X (c_AL_get B0 hA bi (by omega)) rfl fbl rfl ⟨⟨tw_91, tw_4⟩, ⟨by decide, by decide, by decide +kernel⟩, by decide, by decide⟩ tw_88 tw_89 tw_90 rfl hl.1 (Nat.le_of_ble_eq_true rfl) ⟨by decide, by decide⟩ d_LB_gain_23 (fun v h' hp => ?_)
    obtain ⟨rfl, rfl⟩ := hp
    refine g_widen (k' := 0) (n' := 0) (by decide) (by decide) ?_
    show G D s0 p l e _ s m _ below meth c h _ _ _ (F0 m 26 ls [.ref (A.getD bi 0)])
    refine g_cast X fb rfl tw_102 tw_652 d_LB_gain_26 ?_
    refine g_s (fun kk => lv_astore_n (lv' := [(3, .ref (A.getD bi 0)), (0, .ref x), (1, .int (iZ (bi))), (2, .int (iZ (j)))]) X.1 X.2.1 d_LB_gain_29 rfl hl (by decide) rfl kk) (fun ls hl => ?_)
    refine g_1 (fun w => lv_aload_n X.1 X.2.1 d_LB_gain_30 rfl (lv_at hl 0 rfl) w) ?_
    refine g_1 (fun w => lv_iload_n X.1 X.2.1 d_LB_gain_31 rfl (lv_at hl 3 rfl) w) ?_
    refine g_callVN (na := 1) X (c_BK_hasStep B0 (hbs bi hbi) (hbo bi hbi) ⟨by omega, by omega⟩) rfl fb rfl ⟨⟨tw_350, tw_12⟩, ⟨by decide, by decide, by decide +kernel⟩, by decide, by decide⟩ tw_347 tw_349 ts_BK_hasStep rfl hl.1 (Nat.le_of_ble_eq_true rfl) ⟨by decide, by decide⟩ d_LB_gain_32 (fun v h' hp => ?_)
    obtain ⟨rfl, rfl⟩ := hp
    refine g_widen (k' := 0) (n' := 0) (by decide) (by decide) ?_
    show G D s0 p l e _ s m _ below meth c h _ _ _ (F0 m 35 ls [.int (iZ (if 0 ≤ j ∧ j < bS (bs bi) then 1 else 0))])
    refine g_if_ne (tgt := 48) X (by first | (split <;> exact ⟨by omega, by omega⟩) | exact ⟨by omega, by omega⟩ | exact cmpZ_ok _ _) d_LB_gain_35 (by decide) (fun c35 => ?_) (fun c35 => ?_)
    · obtain ⟨si, rfl, hsi⟩ : ∃ si : Nat, (si : Int) = j ∧ si < bS (bs bi) := ⟨j.toNat, by have z := if_1 c35; omega, by have z := if_1 c35; omega⟩
      refine g_1 (fun w => lv_aload_n X.1 X.2.1 d_LB_gain_48 rfl (lv_at hl 0 rfl) w) ?_
      refine g_1 (fun w => lv_iload_n X.1 X.2.1 d_LB_gain_49 rfl (lv_at hl 3 rfl) w) ?_
      refine g_callVN (na := 1) X (c_BK_stepGain B0 (hbs bi hbi) (hbo bi hbi) si (by omega)) rfl fb rfl ⟨⟨tw_327, tw_12⟩, ⟨by decide, by decide, by decide +kernel⟩, by decide, by decide⟩ tw_379 tw_326 ts_BK_stepGain rfl hl.1 (Nat.le_of_ble_eq_true rfl) ⟨by decide, by decide⟩ d_LB_gain_50 (fun v h' hp => ?_)
      obtain ⟨rfl, rfl⟩ := hp
      refine g_widen (k' := 0) (n' := 0) (by decide) (by decide) ?_
      show G D s0 p l e _ s m _ below meth c h _ _ _ (F0 m 53 ls [.long (lZ (bG (bs bi) (bC (bs bi) (si + 1)) - bG (bs bi) (bC (bs bi) si)))])
      exact g_rx (g_lret X (⟨bi, si, rfl, rfl, hbi, hsi, rfl, rfl⟩) (by decide) (by decide) d_LB_gain_53)
    · exact g_throw X hfl hxt (i1 := 88) (i2 := 90) (i3 := 92) g_oa_IX (by decide +kernel) tw_351 tw_352 tw_19 (tx := "no such step") (by decide) (⟨Or.inr ⟨rfl, bi, rfl, hbi, if_0 c35⟩, rfl⟩) hl.1 (by decide) (by decide) ⟨by decide, by decide⟩ ⟨by decide, by decide⟩ d_LB_gain_38 d_LB_gain_41 d_LB_gain_42 d_LB_gain_44 d_LB_gain_47
  · exact g_throw X hfl hxt (i1 := 51) (i2 := 53) (i3 := 55) g_oa_IA (by decide +kernel) tw_286 tw_287 tw_17 (tx := "no such block") (by decide) (⟨Or.inl ⟨rfl, if_0 c5⟩, rfl⟩) hl.1 (by decide) (by decide) ⟨by decide, by decide⟩ ⟨by decide, by decide⟩ d_LB_gain_8 d_LB_gain_11 d_LB_gain_12 d_LB_gain_14 d_LB_gain_17

set_option maxHeartbeats 4000000 in
set_option maxRecDepth 100000 in
theorem c_LB_step {D : va_G} {s0 : State} {l : Launch} {h : gH} (B0 : gB D s0) (hfl : l.flags = flags0) {x : Nat} {A Y : List Nat} {bs : Nat → Blk} {ys : Nat → Lay} {pn tb : Int} (hx : isLB D h x A bs Y ys pn tb) (hAl : A.length ≤ 1024) (hYl : Y.length ≤ 64) (hbo : ∀ i, i < A.length → okB (bs i)) {i j z : Int} (hi : i_ok i) (hj : i_ok j) (hz : i_ok z) : gMetX D s0 l y_LB_step b_LB_step 5 (some .int) ({ frames := 6, cells := 1, slots := 6, locals := 105 } : Room) [.ref x, .int (iZ (i)), .int (iZ (j)), .int (iZ (z))] h (fun v h' => ∃ b : Nat, (b : Int) = i ∧ b < A.length ∧ ((j = -1 ∧ some (.int (iZ (bS (bs b)))) = v) ∨ (j ≠ -1 ∧ (z = 0 ∨ z = 1) ∧ ∃ k : Nat, (k : Int) = j ∧ k < bS (bs b) ∧ some (.int (iZ (if z = 0 then (bC (bs b) (k + 1) : Int) else bB (bs b) (bC (bs b) (k + 1)) - bB (bs b) (bC (bs b) k)))) = v)) ∧ h = h') (fun C h' => ((C = "java/lang/IllegalArgumentException" ∧ (¬ (0 ≤ i ∧ i < A.length) ∨ (j ≠ -1 ∧ ¬ (z = 0 ∨ z = 1)))) ∨ (C = "java/lang/IndexOutOfBoundsException" ∧ j ≠ -1 ∧ (z = 0 ∨ z = 1) ∧ ∃ b : Nat, (b : Int) = i ∧ b < A.length ∧ ¬ (0 ≤ j ∧ j < bS (bs b)))) ∧ h = h') := by
  obtain ⟨bl, yl, fX, hA, hY, hbs, hys, hnd, hnd2⟩ := id hx
  obtain ⟨eb, mb, fbl, -⟩ := id hA
  obtain ⟨ey, my, fyl, -⟩ := id hY
  obtain ⟨hi1, hi2⟩ := id hi
  obtain ⟨hj1, hj2⟩ := id hj
  obtain ⟨hz1, hz2⟩ := id hz
  refine g_enterX B0 (plainFor_of_name (by decide)) (Nat.le_of_ble_eq_true rfl) (fun p e s m below meth c ls X hxt hnm hl => ?_)
  have hl : lv_has ls 5 [(0, .ref x), (1, .int (iZ (i))), (2, .int (iZ (j))), (3, .int (iZ (z)))] := hl
  refine g_1 (fun w => lv_aload_n X.1 X.2.1 d_LB_step_0 rfl (lv_at hl 0 rfl) w) ?_
  refine g_1 (fun w => lv_iload_n X.1 X.2.1 d_LB_step_1 rfl (lv_at hl 1 rfl) w) ?_
  refine g_callV (na := 1) X (c_LB_hasBlock B0 hx hAl hYl ⟨by omega, by omega⟩) rfl fX rfl ⟨⟨tw_285, tw_1⟩, ⟨by decide, by decide, by decide +kernel⟩, by decide, by decide⟩ tw_282 tw_284 ts_LB_hasBlock rfl hl.1 (Nat.le_of_ble_eq_true rfl) ⟨by decide, by decide⟩ d_LB_step_2 (fun v h' hp => ?_)
  obtain ⟨rfl, rfl⟩ := hp
  refine g_widen (k' := 0) (n' := 0) (by decide) (by decide) ?_
  show G D s0 p l e _ s m _ below meth c h _ _ _ (F0 m 5 ls [.int (iZ (if 0 ≤ i ∧ i < A.length then 1 else 0))])
  refine g_if_ne (tgt := 18) X (by first | (split <;> exact ⟨by omega, by omega⟩) | exact ⟨by omega, by omega⟩ | exact cmpZ_ok _ _) d_LB_step_5 (by decide) (fun c5 => ?_) (fun c5 => ?_)
  · obtain ⟨bi, rfl, hbi⟩ : ∃ bi : Nat, (bi : Int) = i ∧ bi < A.length := ⟨i.toNat, by have z := if_1 c5; omega, by have z := if_1 c5; omega⟩
    obtain ⟨p1, p2, p3, fb, fB, fG, fC⟩ := id (hbs bi hbi)
    obtain ⟨k1, k2, k3, k4, k5, k6, k7, k8⟩ := id (hbo bi hbi)
    refine g_1 (fun w => lv_aload_n X.1 X.2.1 d_LB_step_18 rfl (lv_at hl 0 rfl) w) ?_
    refine g_get X (ci := 0) rfl fX 0 (by decide) ⟨rfl, rfl⟩ tw_55 (Or.inl rfl) rfl d_LB_step_19 ?_
    refine g_1 (fun w => lv_iload_n X.1 X.2.1 d_LB_step_22 rfl (lv_at hl 1 rfl) w) ?_
    refine g_callV (na := 1) X (c_AL_get B0 hA bi (by omega)) rfl fbl rfl ⟨⟨tw_91, tw_4⟩, ⟨by decide, by decide, by decide +kernel⟩, by decide, by decide⟩ tw_88 tw_89 tw_90 rfl hl.1 (Nat.le_of_ble_eq_true rfl) ⟨by decide, by decide⟩ d_LB_step_23 (fun v h' hp => ?_)
    obtain ⟨rfl, rfl⟩ := hp
    refine g_widen (k' := 0) (n' := 0) (by decide) (by decide) ?_
    show G D s0 p l e _ s m _ below meth c h _ _ _ (F0 m 26 ls [.ref (A.getD bi 0)])
    refine g_cast X fb rfl tw_102 tw_652 d_LB_step_26 ?_
    refine g_s (fun kk => lv_astore (lv' := [(4, .ref (A.getD bi 0)), (0, .ref x), (1, .int (iZ (bi))), (2, .int (iZ (j))), (3, .int (iZ (z)))]) X.1 X.2.1 d_LB_step_29 hl (by decide) rfl kk) (fun ls hl => ?_)
    refine g_1 (fun w => lv_iload_n X.1 X.2.1 d_LB_step_31 rfl (lv_at hl 3 rfl) w) ?_
    refine g_1 (fun w => lv_iconst (v := iZ (-1)) X.1 X.2.1 d_LB_step_32 rfl w) ?_
    refine g_icmp_ne (tgt := 42) X (by first | (split <;> exact ⟨by omega, by omega⟩) | exact ⟨by omega, by omega⟩ | exact cmpZ_ok _ _) (by first | (split <;> exact ⟨by omega, by omega⟩) | exact ⟨by omega, by omega⟩ | exact cmpZ_ok _ _) d_LB_step_33 (by decide) (fun c33 => ?_) (fun c33 => ?_)
    · refine g_1 (fun w => lv_iload_n X.1 X.2.1 d_LB_step_42 rfl (lv_at hl 4 rfl) w) ?_
      refine g_if_eq (tgt := 61) X (by first | (split <;> exact ⟨by omega, by omega⟩) | exact ⟨by omega, by omega⟩ | exact cmpZ_ok _ _) d_LB_step_43 (by decide) (fun c43 => ?_) (fun c43 => ?_)
      · refine g_1 (fun w => lv_aload X.1 X.2.1 d_LB_step_61 (lv_at hl 0 rfl) w) ?_
        refine g_1 (fun w => lv_iload_n X.1 X.2.1 d_LB_step_63 rfl (lv_at hl 3 rfl) w) ?_
        refine g_callVN (na := 1) X (c_BK_hasStep B0 (hbs bi hbi) (hbo bi hbi) ⟨by omega, by omega⟩) rfl fb rfl ⟨⟨tw_350, tw_12⟩, ⟨by decide, by decide, by decide +kernel⟩, by decide, by decide⟩ tw_347 tw_349 ts_BK_hasStep rfl hl.1 (Nat.le_of_ble_eq_true rfl) ⟨by decide, by decide⟩ d_LB_step_64 (fun v h' hp => ?_)
        obtain ⟨rfl, rfl⟩ := hp
        refine g_widen (k' := 0) (n' := 0) (by decide) (by decide) ?_
        show G D s0 p l e _ s m _ below meth c h _ _ _ (F0 m 67 ls [.int (iZ (if 0 ≤ j ∧ j < bS (bs bi) then 1 else 0))])
        refine g_if_ne (tgt := 80) X (by first | (split <;> exact ⟨by omega, by omega⟩) | exact ⟨by omega, by omega⟩ | exact cmpZ_ok _ _) d_LB_step_67 (by decide) (fun c67 => ?_) (fun c67 => ?_)
        · obtain ⟨si, rfl, hsi⟩ : ∃ si : Nat, (si : Int) = j ∧ si < bS (bs bi) := ⟨j.toNat, by have z := if_1 c67; omega, by have z := if_1 c67; omega⟩
          refine g_1 (fun w => lv_iload_n X.1 X.2.1 d_LB_step_80 rfl (lv_at hl 4 rfl) w) ?_
          refine g_if_ne (tgt := 93) X (by first | (split <;> exact ⟨by omega, by omega⟩) | exact ⟨by omega, by omega⟩ | exact cmpZ_ok _ _) d_LB_step_81 (by decide) (fun c81 => ?_) (fun c81 => ?_)
          · refine g_1 (fun w => lv_aload X.1 X.2.1 d_LB_step_93 (lv_at hl 0 rfl) w) ?_
            refine g_1 (fun w => lv_iload_n X.1 X.2.1 d_LB_step_95 rfl (lv_at hl 3 rfl) w) ?_
            refine g_callVN (na := 1) X (c_BK_stepBytes B0 (hbs bi hbi) (hbo bi hbi) si (by omega)) rfl fb rfl ⟨⟨tw_331, tw_12⟩, ⟨by decide, by decide, by decide +kernel⟩, by decide, by decide⟩ tw_371 tw_330 ts_BK_stepBytes rfl hl.1 (Nat.le_of_ble_eq_true rfl) ⟨by decide, by decide⟩ d_LB_step_96 (fun v h' hp => ?_)
            obtain ⟨rfl, rfl⟩ := hp
            refine g_widen (k' := 0) (n' := 0) (by decide) (by decide) ?_
            show G D s0 p l e _ s m _ below meth c h _ _ _ (F0 m 99 ls [.int (iZ (bB (bs bi) (bC (bs bi) (si + 1)) - bB (bs bi) (bC (bs bi) si)))])
            exact g_rx (g_iret X (⟨bi, rfl, hbi, Or.inr ⟨c33, by omega, si, rfl, hsi, by rw [if_neg c81]⟩, rfl⟩) (by decide) (by decide) d_LB_step_99)
          · refine g_1 (fun w => lv_aload X.1 X.2.1 d_LB_step_84 (lv_at hl 0 rfl) w) ?_
            refine g_1 (fun w => lv_iload_n X.1 X.2.1 d_LB_step_86 rfl (lv_at hl 3 rfl) w) ?_
            refine g_callVN (na := 1) X (c_BK_stepEnd B0 (hbs bi hbi) (hbo bi hbi) si (by omega)) rfl fb rfl ⟨⟨tw_370, tw_12⟩, ⟨by decide, by decide, by decide +kernel⟩, by decide, by decide⟩ tw_367 tw_369 ts_BK_stepEnd rfl hl.1 (Nat.le_of_ble_eq_true rfl) ⟨by decide, by decide⟩ d_LB_step_87 (fun v h' hp => ?_)
            obtain ⟨rfl, rfl⟩ := hp
            refine g_widen (k' := 0) (n' := 0) (by decide) (by decide) ?_
            show G D s0 p l e _ s m _ below meth c h _ _ _ (F0 m 90 ls [.int (iZ (bC (bs bi) (si + 1)))])
            refine g_goto (tgt := 99) X d_LB_step_90 (by decide) ?_
            exact g_rx (g_iret X (⟨bi, rfl, hbi, Or.inr ⟨c33, by omega, si, rfl, hsi, by rw [if_pos c81]⟩, rfl⟩) (by decide) (by decide) d_LB_step_99)
        · exact g_throw X hfl hxt (i1 := 88) (i2 := 90) (i3 := 92) g_oa_IX (by decide +kernel) tw_351 tw_352 tw_19 (tx := "no such step") (by decide) (⟨Or.inr ⟨rfl, c33, by omega, bi, rfl, hbi, if_0 c67⟩, rfl⟩) hl.1 (by decide) (by decide) ⟨by decide, by decide⟩ ⟨by decide, by decide⟩ d_LB_step_70 d_LB_step_73 d_LB_step_74 d_LB_step_76 d_LB_step_79
      · refine g_1 (fun w => lv_iload_n X.1 X.2.1 d_LB_step_46 rfl (lv_at hl 4 rfl) w) ?_
        refine g_1 (fun w => lv_iconst (v := iZ 1) X.1 X.2.1 d_LB_step_47 rfl w) ?_
        refine g_icmp_eq (tgt := 61) X (by first | (split <;> exact ⟨by omega, by omega⟩) | exact ⟨by omega, by omega⟩ | exact cmpZ_ok _ _) (by first | (split <;> exact ⟨by omega, by omega⟩) | exact ⟨by omega, by omega⟩ | exact cmpZ_ok _ _) d_LB_step_48 (by decide) (fun c48 => ?_) (fun c48 => ?_)
        · refine g_1 (fun w => lv_aload X.1 X.2.1 d_LB_step_61 (lv_at hl 0 rfl) w) ?_
          refine g_1 (fun w => lv_iload_n X.1 X.2.1 d_LB_step_63 rfl (lv_at hl 3 rfl) w) ?_
          refine g_callVN (na := 1) X (c_BK_hasStep B0 (hbs bi hbi) (hbo bi hbi) ⟨by omega, by omega⟩) rfl fb rfl ⟨⟨tw_350, tw_12⟩, ⟨by decide, by decide, by decide +kernel⟩, by decide, by decide⟩ tw_347 tw_349 ts_BK_hasStep rfl hl.1 (Nat.le_of_ble_eq_true rfl) ⟨by decide, by decide⟩ d_LB_step_64 (fun v h' hp => ?_)
          obtain ⟨rfl, rfl⟩ := hp
          refine g_widen (k' := 0) (n' := 0) (by decide) (by decide) ?_
          show G D s0 p l e _ s m _ below meth c h _ _ _ (F0 m 67 ls [.int (iZ (if 0 ≤ j ∧ j < bS (bs bi) then 1 else 0))])
          refine g_if_ne (tgt := 80) X (by first | (split <;> exact ⟨by omega, by omega⟩) | exact ⟨by omega, by omega⟩ | exact cmpZ_ok _ _) d_LB_step_67 (by decide) (fun c67 => ?_) (fun c67 => ?_)
          · obtain ⟨si, rfl, hsi⟩ : ∃ si : Nat, (si : Int) = j ∧ si < bS (bs bi) := ⟨j.toNat, by have z := if_1 c67; omega, by have z := if_1 c67; omega⟩
            refine g_1 (fun w => lv_iload_n X.1 X.2.1 d_LB_step_80 rfl (lv_at hl 4 rfl) w) ?_
            refine g_if_ne (tgt := 93) X (by first | (split <;> exact ⟨by omega, by omega⟩) | exact ⟨by omega, by omega⟩ | exact cmpZ_ok _ _) d_LB_step_81 (by decide) (fun c81 => ?_) (fun c81 => ?_)
            · refine g_1 (fun w => lv_aload X.1 X.2.1 d_LB_step_93 (lv_at hl 0 rfl) w) ?_
              refine g_1 (fun w => lv_iload_n X.1 X.2.1 d_LB_step_95 rfl (lv_at hl 3 rfl) w) ?_
              refine g_callVN (na := 1) X (c_BK_stepBytes B0 (hbs bi hbi) (hbo bi hbi) si (by omega)) rfl fb rfl ⟨⟨tw_331, tw_12⟩, ⟨by decide, by decide, by decide +kernel⟩, by decide, by decide⟩ tw_371 tw_330 ts_BK_stepBytes rfl hl.1 (Nat.le_of_ble_eq_true rfl) ⟨by decide, by decide⟩ d_LB_step_96 (fun v h' hp => ?_)
              obtain ⟨rfl, rfl⟩ := hp
              refine g_widen (k' := 0) (n' := 0) (by decide) (by decide) ?_
              show G D s0 p l e _ s m _ below meth c h _ _ _ (F0 m 99 ls [.int (iZ (bB (bs bi) (bC (bs bi) (si + 1)) - bB (bs bi) (bC (bs bi) si)))])
              exact g_rx (g_iret X (⟨bi, rfl, hbi, Or.inr ⟨c33, by omega, si, rfl, hsi, by rw [if_neg c81]⟩, rfl⟩) (by decide) (by decide) d_LB_step_99)
            · refine g_1 (fun w => lv_aload X.1 X.2.1 d_LB_step_84 (lv_at hl 0 rfl) w) ?_
              refine g_1 (fun w => lv_iload_n X.1 X.2.1 d_LB_step_86 rfl (lv_at hl 3 rfl) w) ?_
              refine g_callVN (na := 1) X (c_BK_stepEnd B0 (hbs bi hbi) (hbo bi hbi) si (by omega)) rfl fb rfl ⟨⟨tw_370, tw_12⟩, ⟨by decide, by decide, by decide +kernel⟩, by decide, by decide⟩ tw_367 tw_369 ts_BK_stepEnd rfl hl.1 (Nat.le_of_ble_eq_true rfl) ⟨by decide, by decide⟩ d_LB_step_87 (fun v h' hp => ?_)
              obtain ⟨rfl, rfl⟩ := hp
              refine g_widen (k' := 0) (n' := 0) (by decide) (by decide) ?_
              show G D s0 p l e _ s m _ below meth c h _ _ _ (F0 m 90 ls [.int (iZ (bC (bs bi) (si + 1)))])
              refine g_goto (tgt := 99) X d_LB_step_90 (by decide) ?_
              exact g_rx (g_iret X (⟨bi, rfl, hbi, Or.inr ⟨c33, by omega, si, rfl, hsi, by rw [if_pos c81]⟩, rfl⟩) (by decide) (by decide) d_LB_step_99)
          · exact g_throw X hfl hxt (i1 := 88) (i2 := 90) (i3 := 92) g_oa_IX (by decide +kernel) tw_351 tw_352 tw_19 (tx := "no such step") (by decide) (⟨Or.inr ⟨rfl, c33, by omega, bi, rfl, hbi, if_0 c67⟩, rfl⟩) hl.1 (by decide) (by decide) ⟨by decide, by decide⟩ ⟨by decide, by decide⟩ d_LB_step_70 d_LB_step_73 d_LB_step_74 d_LB_step_76 d_LB_step_79
        · exact g_throw X hfl hxt (i1 := 51) (i2 := 83) (i3 := 55) g_oa_IA (by decide +kernel) tw_286 tw_287 tw_17 (tx := "no such w") (by decide) (⟨Or.inl ⟨rfl, Or.inr ⟨c33, by omega⟩⟩, rfl⟩) hl.1 (by decide) (by decide) ⟨by decide, by decide⟩ ⟨by decide, by decide⟩ d_LB_step_51 d_LB_step_54 d_LB_step_55 d_LB_step_57 d_LB_step_60
    · refine g_1 (fun w => lv_aload X.1 X.2.1 d_LB_step_36 (lv_at hl 0 rfl) w) ?_
      refine g_getN X (ci := 1) rfl fb 4 (by decide) ⟨rfl, rfl⟩ tw_198 rfl d_LB_step_38 ?_
      exact g_rx (g_iret X (⟨bi, rfl, hbi, Or.inl ⟨c33, rfl⟩, rfl⟩) (by decide) (by decide) d_LB_step_41)
  · exact g_throw X hfl hxt (i1 := 51) (i2 := 53) (i3 := 55) g_oa_IA (by decide +kernel) tw_286 tw_287 tw_17 (tx := "no such block") (by decide) (⟨Or.inl ⟨rfl, Or.inl (if_0 c5)⟩, rfl⟩) hl.1 (by decide) (by decide) ⟨by decide, by decide⟩ ⟨by decide, by decide⟩ d_LB_step_8 d_LB_step_11 d_LB_step_12 d_LB_step_14 d_LB_step_17
