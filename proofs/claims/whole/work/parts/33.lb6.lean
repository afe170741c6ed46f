set_option maxHeartbeats 4000000 in
set_option maxRecDepth 100000 in
theorem c_LB_bytesOfSlope {D : va_G} {s0 : State} {l : Launch} {h : gH} (B0 : gB D s0) {x : Nat} {A Y : List Nat} {bs : Nat → Blk} {ys : Nat → Lay} {pn tb : Int} (hx : isLB D h x A bs Y ys pn tb) (hAl : A.length ≤ 1024) (hYl : Y.length ≤ 64) (hwf : ∀ i, i < A.length → wfB (bs i)) {sg sb : Int} (hg1 : -65970697666560 ≤ sg) (hg2 : sg ≤ 65970697666560) (hb1 : 0 ≤ sb) (hb2 : sb ≤ 65535) : gMet D s0 l y_LB_bytesOfSlope b_LB_bytesOfSlope 7 (some .int) ({ frames := 3, cells := 0, slots := 0, locals := 71 } : Room) [.ref x, .long (lZ (sg)), .int (iZ (sb))] h (fun v h' => some (.int (iZ (cst bs sg sb A.length))) = v ∧ h = h') := by
  obtain ⟨bl, yl, fX, hA, hY, hbs, hys, hnd, hnd2⟩ := id hx
  obtain ⟨eb, mb, fbl, -⟩ := id hA
  obtain ⟨ey, my, fyl, -⟩ := id hY
  refine g_enter B0 (plainFor_of_name (by decide)) (Nat.le_of_ble_eq_true rfl) (fun p e s m below meth c ls X hnm hl => ?_)
  have hl : lv_has ls 7 [(0, .ref x), (1, .long (lZ (sg))), (3, .int (iZ (sb)))] := hl
  have loop : ∀ (d i : Nat) (ls : Array Slot), i + d = A.length → lv_has ls 7 [(4, .int (iZ (cst bs sg sb i))), (5, .int (iZ (i))), (3, .int (iZ (sb))), (1, .long (lZ (sg))), (0, .ref x)] → G D s0 p l e ({ frames := 3, cells := 0, slots := 0, locals := 71 } : Room) s m ([.ref x, .long (lZ (sg)), .int (iZ (sb))] : List Value).toArray below meth c h 0 0 (MQ below (gQ D s0 (fun v h' => some (.int (iZ (cst bs sg sb A.length))) = v ∧ h = h')) ([.ref x, .long (lZ (sg)), .int (iZ (sb))] : List Value).toArray s 0 0 (fun q => s0.heap.size ≤ q)) (F0 m 6 ls []) := by
    intro d
    induction d with
    | zero =>
      intro i ls hi hl
      refine g_1 (fun w => lv_iload X.1 X.2.1 d_LB_bytesOfSlope_6 (lv_at hl 1 rfl) w) ?_
      refine g_1 (fun w => lv_aload_n X.1 X.2.1 d_LB_bytesOfSlope_8 rfl (lv_at hl 4 rfl) w) ?_
      refine g_get X (ci := 0) rfl fX 0 (by decide) ⟨rfl, rfl⟩ tw_55 (Or.inl rfl) rfl d_LB_bytesOfSlope_9 ?_
      refine g_callV (na := 0) X (c_AL_size B0 hA) rfl fbl rfl ⟨⟨tw_87, tw_4⟩, ⟨by decide, by decide, by decide +kernel⟩, by decide, by decide⟩ tw_84 tw_85 tw_86 rfl hl.1 (Nat.le_of_ble_eq_true rfl) ⟨by decide, by decide⟩ d_LB_bytesOfSlope_12 (fun v h' hp => ?_)
      obtain ⟨rfl, rfl⟩ := hp
      refine g_widen (k' := 0) (n' := 0) (by decide) (by decide) ?_
      show G D s0 p l e _ s m _ below meth c h _ _ _ (F0 m 15 ls [.int (iZ (A.length)), .int (iZ (i))])
      refine g_icmp_ge (tgt := 58) X (by first | (split <;> exact ⟨by omega, by omega⟩) | exact ⟨by omega, by omega⟩ | exact cmpZ_ok _ _) (by first | (split <;> exact ⟨by omega, by omega⟩) | exact ⟨by omega, by omega⟩ | exact cmpZ_ok _ _) d_LB_bytesOfSlope_15 (by decide) (fun c15 => ?_) (fun c15 => ?_)
      · refine g_1 (fun w => lv_iload X.1 X.2.1 d_LB_bytesOfSlope_58 (lv_at hl 0 rfl) w) ?_
        exact g_iret X (⟨by rw [show A.length = i by omega], rfl⟩) (by decide) (by decide) d_LB_bytesOfSlope_60
      · exfalso
        omega
    | succ d ih =>
      intro i ls hi hl
      have hk1 := hbs i (by omega)
      have hw1 := hwf i (by omega)
      have ht := hw1.1.2.2.1
      have hs := hw1.1.2.1
      have hp0 := hw1.1.1
      obtain ⟨p1, p2, p3, fb, -⟩ := id hk1
      refine g_1 (fun w => lv_iload X.1 X.2.1 d_LB_bytesOfSlope_6 (lv_at hl 1 rfl) w) ?_
      refine g_1 (fun w => lv_aload_n X.1 X.2.1 d_LB_bytesOfSlope_8 rfl (lv_at hl 4 rfl) w) ?_
      refine g_get X (ci := 0) rfl fX 0 (by decide) ⟨rfl, rfl⟩ tw_55 (Or.inl rfl) rfl d_LB_bytesOfSlope_9 ?_
      refine g_callV (na := 0) X (c_AL_size B0 hA) rfl fbl rfl ⟨⟨tw_87, tw_4⟩, ⟨by decide, by decide, by decide +kernel⟩, by decide, by decide⟩ tw_84 tw_85 tw_86 rfl hl.1 (Nat.le_of_ble_eq_true rfl) ⟨by decide, by decide⟩ d_LB_bytesOfSlope_12 (fun v h' hp => ?_)
      obtain ⟨rfl, rfl⟩ := hp
      refine g_widen (k' := 0) (n' := 0) (by decide) (by decide) ?_
      show G D s0 p l e _ s m _ below meth c h _ _ _ (F0 m 15 ls [.int (iZ (A.length)), .int (iZ (i))])
      refine g_icmp_ge (tgt := 58) X (by first | (split <;> exact ⟨by omega, by omega⟩) | exact ⟨by omega, by omega⟩ | exact cmpZ_ok _ _) (by first | (split <;> exact ⟨by omega, by omega⟩) | exact ⟨by omega, by omega⟩ | exact cmpZ_ok _ _) d_LB_bytesOfSlope_15 (by decide) (fun c15 => ?_) (fun c15 => ?_)
      · exfalso
        omega
      · refine g_1 (fun w => lv_aload_n X.1 X.2.1 d_LB_bytesOfSlope_18 rfl (lv_at hl 4 rfl) w) ?_
        refine g_get X (ci := 0) rfl fX 0 (by decide) ⟨rfl, rfl⟩ tw_55 (Or.inl rfl) rfl d_LB_bytesOfSlope_19 ?_
        refine g_1 (fun w => lv_iload X.1 X.2.1 d_LB_bytesOfSlope_22 (lv_at hl 1 rfl) w) ?_
        refine g_callV (na := 1) X (c_AL_get B0 hA i (by omega)) rfl fbl rfl ⟨⟨tw_91, tw_4⟩, ⟨by decide, by decide, by decide +kernel⟩, by decide, by decide⟩ tw_88 tw_89 tw_90 rfl hl.1 (Nat.le_of_ble_eq_true rfl) ⟨by decide, by decide⟩ d_LB_bytesOfSlope_24 (fun v h' hp => ?_)
        obtain ⟨rfl, rfl⟩ := hp
        refine g_widen (k' := 0) (n' := 0) (by decide) (by decide) ?_
        show G D s0 p l e _ s m _ below meth c h _ _ _ (F0 m 27 ls [.ref (A.getD i 0)])
        refine g_cast X fb rfl tw_102 tw_652 d_LB_bytesOfSlope_27 ?_
        refine g_s (fun kk => lv_astore (lv' := [(6, .ref (A.getD i 0)), (4, .int (iZ (cst bs sg sb i))), (5, .int (iZ (i))), (3, .int (iZ (sb))), (1, .long (lZ (sg))), (0, .ref x)]) X.1 X.2.1 d_LB_bytesOfSlope_30 hl (by decide) rfl kk) (fun ls hl => ?_)
        refine g_1 (fun w => lv_aload X.1 X.2.1 d_LB_bytesOfSlope_32 (lv_at hl 0 rfl) w) ?_
        refine g_1 (fun w => lv_lload_n X.1 X.2.1 d_LB_bytesOfSlope_34 rfl (lv_at hl 4 rfl) w) ?_
        refine g_1 (fun w => lv_iload_n X.1 X.2.1 d_LB_bytesOfSlope_35 rfl (lv_at hl 3 rfl) w) ?_
        refine g_callVN (na := 2) X (c_BK_nextHasSlope B0 hk1 hw1.1 hg1 hg2 hb1 hb2 (fun z => hw1.mo z)) rfl fb rfl ⟨⟨tw_452, tw_12⟩, ⟨by decide, by decide, by decide +kernel⟩, by decide, by decide⟩ tw_449 tw_451 ts_BK_nextHasSlope rfl hl.1 (Nat.le_of_ble_eq_true rfl) ⟨by decide, by decide⟩ d_LB_bytesOfSlope_36 (fun v h' hp => ?_)
        obtain ⟨rfl, rfl⟩ := hp
        refine g_widen (k' := 0) (n' := 0) (by decide) (by decide) ?_
        show G D s0 p l e _ s m _ below meth c h _ _ _ (F0 m 39 ls [.int (iZ (if eqS sg sb (bs i) then 1 else 0))])
        refine g_if_eq (tgt := 52) X (by first | (split <;> exact ⟨by omega, by omega⟩) | exact ⟨by omega, by omega⟩ | exact cmpZ_ok _ _) d_LB_bytesOfSlope_39 (by decide) (fun c39 => ?_) (fun c39 => ?_)
        · refine g_s (fun kk => lv_iinc (v := iZ (i + 1)) (lv' := [(5, .int (iZ (i + 1))), (6, .ref (A.getD i 0)), (4, .int (iZ (cst bs sg sb i))), (3, .int (iZ (sb))), (1, .long (lZ (sg))), (0, .ref x)]) X.1 X.2.1 d_LB_bytesOfSlope_52 hl (k := 2) rfl (iZ_add _ _) (by decide) rfl kk) (fun ls hl => ?_)
          refine g_goto (tgt := 6) X d_LB_bytesOfSlope_55 (by decide) ?_
          have e9 := cst_f (if_0 c39)
          have hl := lv_sub hl [2, 0, 3, 4, 5] rfl
          rw [← e9] at hl
          exact ih (i + 1) ls (by omega) hl
        · have c39t := (if_1 c39).1
          refine g_1 (fun w => lv_iload X.1 X.2.1 d_LB_bytesOfSlope_42 (lv_at hl 1 rfl) w) ?_
          refine g_1 (fun w => lv_aload X.1 X.2.1 d_LB_bytesOfSlope_44 (lv_at hl 0 rfl) w) ?_
          refine g_callVN (na := 0) X (c_BK_nextBytes B0 hk1 hw1.1 (by omega)) rfl fb rfl ⟨⟨tw_443, tw_12⟩, ⟨by decide, by decide, by decide +kernel⟩, by decide, by decide⟩ tw_440 tw_442 ts_BK_nextBytes rfl hl.1 (Nat.le_of_ble_eq_true rfl) ⟨by decide, by decide⟩ d_LB_bytesOfSlope_46 (fun v h' hp => ?_)
          obtain ⟨rfl, rfl⟩ := hp
          refine g_widen (k' := 0) (n' := 0) (by decide) (by decide) ?_
          show G D s0 p l e _ s m _ below meth c h _ _ _ (F0 m 49 ls [.int (iZ (nB (bs i))), .int (iZ (cst bs sg sb i))])
          refine g_iadd X d_LB_bytesOfSlope_49 ?_
          refine g_s (fun kk => lv_istore (lv' := [(4, .int (iZ (cst bs sg sb i + (nB (bs i))))), (6, .ref (A.getD i 0)), (5, .int (iZ (i))), (3, .int (iZ (sb))), (1, .long (lZ (sg))), (0, .ref x)]) X.1 X.2.1 d_LB_bytesOfSlope_50 hl (by decide) rfl kk) (fun ls hl => ?_)
          refine g_s (fun kk => lv_iinc (v := iZ (i + 1)) (lv' := [(5, .int (iZ (i + 1))), (4, .int (iZ (cst bs sg sb i + (nB (bs i))))), (6, .ref (A.getD i 0)), (3, .int (iZ (sb))), (1, .long (lZ (sg))), (0, .ref x)]) X.1 X.2.1 d_LB_bytesOfSlope_52 hl (k := 2) rfl (iZ_add _ _) (by decide) rfl kk) (fun ls hl => ?_)
          refine g_goto (tgt := 6) X d_LB_bytesOfSlope_55 (by decide) ?_
          have e9 := cst_t (if_1 c39)
          have hl := lv_sub hl [1, 0, 3, 4, 5] rfl
          rw [← e9] at hl
          exact ih (i + 1) ls (by omega) hl
  refine g_1 (fun w => lv_iconst (v := iZ 0) X.1 X.2.1 d_LB_bytesOfSlope_0 rfl w) ?_
  refine g_s (fun kk => lv_istore (lv' := [(4, .int (iZ (0))), (0, .ref x), (1, .long (lZ (sg))), (3, .int (iZ (sb)))]) X.1 X.2.1 d_LB_bytesOfSlope_1 hl (by decide) rfl kk) (fun ls hl => ?_)
  refine g_1 (fun w => lv_iconst (v := iZ 0) X.1 X.2.1 d_LB_bytesOfSlope_3 rfl w) ?_
  refine g_s (fun kk => lv_istore (lv' := [(5, .int (iZ (0))), (4, .int (iZ (0))), (0, .ref x), (1, .long (lZ (sg))), (3, .int (iZ (sb)))]) X.1 X.2.1 d_LB_bytesOfSlope_4 hl (by decide) rfl kk) (fun ls hl => ?_)
  exact loop A.length 0 ls (by omega) (lv_sub hl [1, 0, 4, 3, 2] rfl)

set_option maxHeartbeats 4000000 in
set_option maxRecDepth 100000 in
theorem c_LB_takeSlope {D : va_G} {s0 : State} {l : Launch} {h : gH} (B0 : gB D s0) {x : Nat} {A Y : List Nat} {bs : Nat → Blk} {ys : Nat → Lay} {pn tb : Int} (hx : isLB D h x A bs Y ys pn tb) (hAl : A.length ≤ 1024) (hYl : Y.length ≤ 64) (hwf : ∀ i, i < A.length → wfB (bs i)) {sg sb : Int} (hg1 : -65970697666560 ≤ sg) (hg2 : sg ≤ 65970697666560) (hb1 : 0 ≤ sb) (hb2 : sb ≤ 65535) : gMet D s0 l y_LB_takeSlope b_LB_takeSlope 6 none ({ frames := 3, cells := 0, slots := 0, locals := 71 } : Room) [.ref x, .long (lZ (sg)), .int (iZ (sb))] h (fun v h' => none = v ∧ isLB D h' x A (fun j => tkS sg sb (bs j)) Y ys pn tb ∧ kp P_BB h h') := by
  obtain ⟨bl, yl, fX, hA, hY, hbs, hys, hnd, hnd2⟩ := id hx
  obtain ⟨eb, mb, fbl, -⟩ := id hA
  obtain ⟨ey, my, fyl, -⟩ := id hY
  refine g_enter B0 (plainFor_of_name (by decide)) (Nat.le_of_ble_eq_true rfl) (fun p e s m below meth c ls X hnm hl => ?_)
  have hl : lv_has ls 6 [(0, .ref x), (1, .long (lZ (sg))), (3, .int (iZ (sb)))] := hl
  have loop : ∀ (d i : Nat) (hh : gH) (ls : Array Slot), i + d = A.length → isLB D hh x A (upto (tkS sg sb) bs i) Y ys pn tb → kp P_BB h hh → lv_has ls 6 [(4, .int (iZ (i))), (3, .int (iZ (sb))), (1, .long (lZ (sg))), (0, .ref x)] → G D s0 p l e ({ frames := 3, cells := 0, slots := 0, locals := 71 } : Room) s m ([.ref x, .long (lZ (sg)), .int (iZ (sb))] : List Value).toArray below meth c hh 0 0 (MQ below (gQ D s0 (fun v h' => none = v ∧ isLB D h' x A (fun j => tkS sg sb (bs j)) Y ys pn tb ∧ kp P_BB h h')) ([.ref x, .long (lZ (sg)), .int (iZ (sb))] : List Value).toArray s 0 0 (fun q => s0.heap.size ≤ q)) (F0 m 3 ls []) := by
    intro d
    induction d with
    | zero =>
      intro i hh ls hi hx2 hkk hl
      obtain ⟨bl, yl, fX, hA, hY, hbs, hys, hnd, hnd2⟩ := id hx2
      obtain ⟨eb, mb, fbl, -⟩ := id hA
      obtain ⟨ey, my, fyl, -⟩ := id hY
      refine g_1 (fun w => lv_iload X.1 X.2.1 d_LB_takeSlope_3 (lv_at hl 0 rfl) w) ?_
      refine g_1 (fun w => lv_aload_n X.1 X.2.1 d_LB_takeSlope_5 rfl (lv_at hl 3 rfl) w) ?_
      refine g_get X (ci := 0) rfl fX 0 (by decide) ⟨rfl, rfl⟩ tw_55 (Or.inl rfl) rfl d_LB_takeSlope_6 ?_
      refine g_callV (na := 0) X (c_AL_size B0 hA) rfl fbl rfl ⟨⟨tw_87, tw_4⟩, ⟨by decide, by decide, by decide +kernel⟩, by decide, by decide⟩ tw_84 tw_85 tw_86 rfl hl.1 (Nat.le_of_ble_eq_true rfl) ⟨by decide, by decide⟩ d_LB_takeSlope_9 (fun v h' hp => ?_)
      obtain ⟨rfl, rfl⟩ := hp
      refine g_widen (k' := 0) (n' := 0) (by decide) (by decide) ?_
      show G D s0 p l e _ s m _ below meth c hh _ _ _ (F0 m 12 ls [.int (iZ (A.length)), .int (iZ (i))])
      refine g_icmp_ge (tgt := 50) X (by first | (split <;> exact ⟨by omega, by omega⟩) | exact ⟨by omega, by omega⟩ | exact cmpZ_ok _ _) (by first | (split <;> exact ⟨by omega, by omega⟩) | exact ⟨by omega, by omega⟩ | exact cmpZ_ok _ _) d_LB_takeSlope_12 (by decide) (fun c12 => ?_) (fun c12 => ?_)
      · have hei : i = A.length := by omega
        subst hei
        have hfin := hx2.congr (bs2 := fun j => tkS sg sb (bs j)) (fun j hj => upto_lt hj)
        exact g_vret X (⟨rfl, hfin, hkk⟩) (by decide) (by decide) d_LB_takeSlope_50
      · exfalso
        omega
    | succ d ih =>
      intro i hh ls hi hx2 hkk hl
      obtain ⟨bl, yl, fX, hA, hY, hbs, hys, hnd, hnd2⟩ := id hx2
      obtain ⟨eb, mb, fbl, -⟩ := id hA
      obtain ⟨ey, my, fyl, -⟩ := id hY
      have hk1 : isBk D hh (A.getD i 0) (bs i) := by have z := hbs i (by omega); rw [upto_at] at z; exact z
      have hw1 := hwf i (by omega)
      have ht := hw1.1.2.2.1
      have hs := hw1.1.2.1
      have hp0 := hw1.1.1
      obtain ⟨p1, p2, p3, fb, -⟩ := id hk1
      refine g_1 (fun w => lv_iload X.1 X.2.1 d_LB_takeSlope_3 (lv_at hl 0 rfl) w) ?_
      refine g_1 (fun w => lv_aload_n X.1 X.2.1 d_LB_takeSlope_5 rfl (lv_at hl 3 rfl) w) ?_
      refine g_get X (ci := 0) rfl fX 0 (by decide) ⟨rfl, rfl⟩ tw_55 (Or.inl rfl) rfl d_LB_takeSlope_6 ?_
      refine g_callV (na := 0) X (c_AL_size B0 hA) rfl fbl rfl ⟨⟨tw_87, tw_4⟩, ⟨by decide, by decide, by decide +kernel⟩, by decide, by decide⟩ tw_84 tw_85 tw_86 rfl hl.1 (Nat.le_of_ble_eq_true rfl) ⟨by decide, by decide⟩ d_LB_takeSlope_9 (fun v h' hp => ?_)
      obtain ⟨rfl, rfl⟩ := hp
      refine g_widen (k' := 0) (n' := 0) (by decide) (by decide) ?_
      show G D s0 p l e _ s m _ below meth c hh _ _ _ (F0 m 12 ls [.int (iZ (A.length)), .int (iZ (i))])
      refine g_icmp_ge (tgt := 50) X (by first | (split <;> exact ⟨by omega, by omega⟩) | exact ⟨by omega, by omega⟩ | exact cmpZ_ok _ _) (by first | (split <;> exact ⟨by omega, by omega⟩) | exact ⟨by omega, by omega⟩ | exact cmpZ_ok _ _) d_LB_takeSlope_12 (by decide) (fun c12 => ?_) (fun c12 => ?_)
      · exfalso
        omega
      · refine g_1 (fun w => lv_aload_n X.1 X.2.1 d_LB_takeSlope_15 rfl (lv_at hl 3 rfl) w) ?_
        refine g_get X (ci := 0) rfl fX 0 (by decide) ⟨rfl, rfl⟩ tw_55 (Or.inl rfl) rfl d_LB_takeSlope_16 ?_
        refine g_1 (fun w => lv_iload X.1 X.2.1 d_LB_takeSlope_19 (lv_at hl 0 rfl) w) ?_
        refine g_callV (na := 1) X (c_AL_get B0 hA i (by omega)) rfl fbl rfl ⟨⟨tw_91, tw_4⟩, ⟨by decide, by decide, by decide +kernel⟩, by decide, by decide⟩ tw_88 tw_89 tw_90 rfl hl.1 (Nat.le_of_ble_eq_true rfl) ⟨by decide, by decide⟩ d_LB_takeSlope_21 (fun v h' hp => ?_)
        obtain ⟨rfl, rfl⟩ := hp
        refine g_widen (k' := 0) (n' := 0) (by decide) (by decide) ?_
        show G D s0 p l e _ s m _ below meth c hh _ _ _ (F0 m 24 ls [.ref (A.getD i 0)])
        refine g_cast X fb rfl tw_102 tw_652 d_LB_takeSlope_24 ?_
        refine g_s (fun kk => lv_astore (lv' := [(5, .ref (A.getD i 0)), (4, .int (iZ (i))), (3, .int (iZ (sb))), (1, .long (lZ (sg))), (0, .ref x)]) X.1 X.2.1 d_LB_takeSlope_27 hl (by decide) rfl kk) (fun ls hl => ?_)
        refine g_1 (fun w => lv_aload X.1 X.2.1 d_LB_takeSlope_29 (lv_at hl 0 rfl) w) ?_
        refine g_1 (fun w => lv_lload_n X.1 X.2.1 d_LB_takeSlope_31 rfl (lv_at hl 3 rfl) w) ?_
        refine g_1 (fun w => lv_iload_n X.1 X.2.1 d_LB_takeSlope_32 rfl (lv_at hl 2 rfl) w) ?_
        refine g_callVN (na := 2) X (c_BK_nextHasSlope B0 hk1 hw1.1 hg1 hg2 hb1 hb2 (fun z => hw1.mo z)) rfl fb rfl ⟨⟨tw_452, tw_12⟩, ⟨by decide, by decide, by decide +kernel⟩, by decide, by decide⟩ tw_449 tw_451 ts_BK_nextHasSlope rfl hl.1 (Nat.le_of_ble_eq_true rfl) ⟨by decide, by decide⟩ d_LB_takeSlope_33 (fun v h' hp => ?_)
        obtain ⟨rfl, rfl⟩ := hp
        refine g_widen (k' := 0) (n' := 0) (by decide) (by decide) ?_
        show G D s0 p l e _ s m _ below meth c hh _ _ _ (F0 m 36 ls [.int (iZ (if eqS sg sb (bs i) then 1 else 0))])
        refine g_if_eq (tgt := 44) X (by first | (split <;> exact ⟨by omega, by omega⟩) | exact ⟨by omega, by omega⟩ | exact cmpZ_ok _ _) d_LB_takeSlope_36 (by decide) (fun c36 => ?_) (fun c36 => ?_)
        · refine g_s (fun kk => lv_iinc (v := iZ (i + 1)) (lv' := [(4, .int (iZ (i + 1))), (5, .ref (A.getD i 0)), (3, .int (iZ (sb))), (1, .long (lZ (sg))), (0, .ref x)]) X.1 X.2.1 d_LB_takeSlope_44 hl (k := 1) rfl (iZ_add _ _) (by decide) rfl kk) (fun ls hl => ?_)
          refine g_goto (tgt := 3) X d_LB_takeSlope_47 (by decide) ?_
          exact ih (i + 1) hh ls (by omega) (by rw [upto_stay (tkS_f (if_0 c36))]; exact hx2) hkk (lv_sub hl [0, 2, 3, 4] rfl)
        · have c36 := if_1 c36
          have c36t := c36.1
          refine g_1 (fun w => lv_aload X.1 X.2.1 d_LB_takeSlope_39 (lv_at hl 0 rfl) w) ?_
          refine g_callVN (na := 0) X (c_BK_takeNext B0 hk1 hw1.1 (by omega)) rfl fb rfl ⟨⟨tw_463, tw_12⟩, ⟨by decide, by decide, by decide +kernel⟩, by decide, by decide⟩ tw_460 tw_462 ts_BK_takeNext rfl hl.1 (Nat.le_of_ble_eq_true rfl) ⟨by decide, by decide⟩ d_LB_takeSlope_41 (fun v h' hp => ?_)
          obtain ⟨rfl, hb5, hk5⟩ := hp
          have hx3 : isLB D h' x A (upto (tkS sg sb) bs (i + 1)) Y ys pn tb := by rw [← upto_succ, tkS_t c36]; exact hx2.setB (by omega) hb5 hk5
          have hk3 := kp_tr hkk (kpB_BB hk1 hk5)
          refine g_widen (k' := 0) (n' := 0) (by decide) (by decide) ?_
          show G D s0 p l e _ s m _ below meth c h' _ _ _ (F0 m 44 ls [])
          refine g_s (fun kk => lv_iinc (v := iZ (i + 1)) (lv' := [(4, .int (iZ (i + 1))), (5, .ref (A.getD i 0)), (3, .int (iZ (sb))), (1, .long (lZ (sg))), (0, .ref x)]) X.1 X.2.1 d_LB_takeSlope_44 hl (k := 1) rfl (iZ_add _ _) (by decide) rfl kk) (fun ls hl => ?_)
          refine g_goto (tgt := 3) X d_LB_takeSlope_47 (by decide) ?_
          exact ih (i + 1) h' ls (by omega) hx3 hk3 (lv_sub hl [0, 2, 3, 4] rfl)
  refine g_1 (fun w => lv_iconst (v := iZ 0) X.1 X.2.1 d_LB_takeSlope_0 rfl w) ?_
  refine g_s (fun kk => lv_istore (lv' := [(4, .int (iZ (0))), (0, .ref x), (1, .long (lZ (sg))), (3, .int (iZ (sb)))]) X.1 X.2.1 d_LB_takeSlope_1 hl (by decide) rfl kk) (fun ls hl => ?_)
  exact loop A.length 0 h ls (by omega) (by rw [upto_0]; exact hx) kp_rf (lv_sub hl [0, 3, 2, 1] rfl)

theorem mk_LB {h h' : gH} {mk : Nat} {e : va_E} (hm : h mk = some ((2, 0), e)) (hk : kp (fun q u => q = mk ∨ u = (15, mk)) h h') : kp P_LB h h' := by
  intro q z hq hn
  refine hk q z hq (fun y => ?_)
  rcases y with y | y
  · subst y
    cases hm.symm.trans hq
    exact hn ⟨Nat.le_of_ble_eq_true rfl, Nat.le_of_ble_eq_true rfl⟩
  · exact hn ⟨by rw [y]; exact Nat.le_of_ble_eq_true rfl, by rw [y]; exact Nat.le_of_ble_eq_true rfl⟩

set_option maxHeartbeats 4000000 in
set_option maxRecDepth 100000 in
theorem c_LB_recordCuts {D : va_G} {s0 : State} {l : Launch} {h : gH} (B0 : gB D s0) {x : Nat} {A Y : List Nat} {bs : Nat → Blk} {ys : Nat → Lay} {pn tb : Int} (hx : isLB D h x A bs Y ys pn tb) (hAl : A.length ≤ 1024) (hYl : Y.length ≤ 64) (hwf : ∀ i, i < A.length → wfB (bs i)) {mk : Nat} {y : Lay} (hm : isLy D h mk y) (hmY : mk ∉ Y) (hy : y.1 = A.length) : gMet D s0 l y_LB_recordCuts b_LB_recordCuts 3 none ({ frames := 3, cells := 0, slots := 0, locals := 64 } : Room) [.ref x, .ref mk] h (fun v h' => none = v ∧ ∃ cf : Nat → Int, (∀ j, j < A.length → cf j = bL (bs j)) ∧ isLB D h' x A bs Y ys pn tb ∧ isLy D h' mk (A.length, cf, tb, y.2.2.2.1, y.2.2.2.2) ∧ kp P_LB h h') := by
  obtain ⟨bl, yl, fX, hA, hY, hbs, hys, hnd, hnd2⟩ := id hx
  obtain ⟨eb, mb, fbl, -⟩ := id hA
  obtain ⟨ey, my, fyl, -⟩ := id hY
  refine g_enter B0 (plainFor_of_name (by decide)) (Nat.le_of_ble_eq_true rfl) (fun p e s m below meth c ls X hnm hl => ?_)
  have hl : lv_has ls 3 [(0, .ref x), (1, .ref mk)] := hl
  have loop : ∀ (d i : Nat) (hh : gH) (cf : Nat → Int) (ls : Array Slot), i + d = A.length → (∀ j, j < i → cf j = bL (bs j)) → isLB D hh x A bs Y ys pn tb → isLy D hh mk (A.length, cf, y.2.2.1, y.2.2.2.1, y.2.2.2.2) → kp P_LB h hh → lv_has ls 3 [(2, .int (iZ (i))), (1, .ref mk), (0, .ref x)] → G D s0 p l e ({ frames := 3, cells := 0, slots := 0, locals := 64 } : Room) s m ([.ref x, .ref mk] : List Value).toArray below meth c hh 0 0 (MQ below (gQ D s0 (fun v h' => none = v ∧ ∃ cf : Nat → Int, (∀ j, j < A.length → cf j = bL (bs j)) ∧ isLB D h' x A bs Y ys pn tb ∧ isLy D h' mk (A.length, cf, tb, y.2.2.2.1, y.2.2.2.2) ∧ kp P_LB h h')) ([.ref x, .ref mk] : List Value).toArray s 0 0 (fun q => s0.heap.size ≤ q)) (F0 m 2 ls []) := by
    intro d
    induction d with
    | zero =>
      intro i hh cf ls hi hcf hx2 hm2 hkk hl
      obtain ⟨bl, yl, fX, hA, hY, hbs, hys, hnd, hnd2⟩ := id hx2
      obtain ⟨eb, mb, fbl, -⟩ := id hA
      obtain ⟨ey, my, fyl, -⟩ := id hY
      obtain ⟨q1, fm, fq⟩ := id hm2
      have hmA := LY_neA (D := D) ⟨fX, hA, hY, hbs, hys, hnd, hnd2⟩ fm
      refine g_1 (fun w => lv_iload_n X.1 X.2.1 d_LB_recordCuts_2 rfl (lv_at hl 0 rfl) w) ?_
      refine g_1 (fun w => lv_aload_n X.1 X.2.1 d_LB_recordCuts_3 rfl (lv_at hl 2 rfl) w) ?_
      refine g_get X (ci := 0) rfl fX 0 (by decide) ⟨rfl, rfl⟩ tw_55 (Or.inl rfl) rfl d_LB_recordCuts_4 ?_
      refine g_callV (na := 0) X (c_AL_size B0 hA) rfl fbl rfl ⟨⟨tw_87, tw_4⟩, ⟨by decide, by decide, by decide +kernel⟩, by decide, by decide⟩ tw_84 tw_85 tw_86 rfl hl.1 (Nat.le_of_ble_eq_true rfl) ⟨by decide, by decide⟩ d_LB_recordCuts_7 (fun v h' hp => ?_)
      obtain ⟨rfl, rfl⟩ := hp
      refine g_widen (k' := 0) (n' := 0) (by decide) (by decide) ?_
      show G D s0 p l e _ s m _ below meth c hh _ _ _ (F0 m 10 ls [.int (iZ (A.length)), .int (iZ (i))])
      refine g_icmp_ge (tgt := 48) X (by first | (split <;> exact ⟨by omega, by omega⟩) | exact ⟨by omega, by omega⟩ | exact cmpZ_ok _ _) (by first | (split <;> exact ⟨by omega, by omega⟩) | exact ⟨by omega, by omega⟩ | exact cmpZ_ok _ _) d_LB_recordCuts_10 (by decide) (fun c10 => ?_) (fun c10 => ?_)
      · refine g_1 (fun w => lv_aload_n X.1 X.2.1 d_LB_recordCuts_48 rfl (lv_at hl 1 rfl) w) ?_
        refine g_1 (fun w => lv_aload_n X.1 X.2.1 d_LB_recordCuts_49 rfl (lv_at hl 2 rfl) w) ?_
        refine g_get X (ci := 0) rfl fX 3 (by decide) ⟨rfl, rfl⟩ tw_58 (Or.inl rfl) rfl d_LB_recordCuts_50 ?_
        refine g_putN X (ci := 2) rfl fm (Nat.succ_ne_zero _) 1 (by decide) ⟨rfl, rfl⟩ tw_398 rfl rfl rfl (Nat.le_of_ble_eq_true rfl) d_LB_recordCuts_53 ?_
        obtain ⟨h_1, eh_1⟩ : ∃ z, z = g_up hh mk ((2, 0), .inr (2, [.ref q1, .int (iZ (tb)), .long (lZ (y.2.2.2.1)), .int (iZ (y.2.2.2.2))])) := ⟨_, rfl⟩
        refine g_h (h' := h_1) eh_1.symm ?_
        have f_2 : h_1 x = some ((3, 0), .inr (0, [.ref bl, .ref yl, .int (iZ (pn)), .int (iZ (tb))])) := by rw [eh_1]; exact g_uk fX fm (show (3 : Nat) ≠ 2 by decide)
        have f_3 : h_1 bl = some ((5, 0), .inr (3, [.ref eb, .int (iZ (A.length)), .int (iZ (mb))])) := by rw [eh_1]; exact g_uk fbl fm (show (5 : Nat) ≠ 2 by decide)
        have f_4 : h_1 yl = some ((5, 1), .inr (3, [.ref ey, .int (iZ (Y.length)), .int (iZ (my))])) := by rw [eh_1]; exact g_uk fyl fm (show (5 : Nat) ≠ 2 by decide)
        have f_5 : h_1 mk = some ((2, 0), .inr (2, [.ref q1, .int (iZ (tb)), .long (lZ (y.2.2.2.1)), .int (iZ (y.2.2.2.2))])) := by rw [eh_1]; exact g_us
        have f_6 : h_1 q1 = some ((15, mk), gI D A.length (cf)) := by rw [eh_1]; exact g_uk fq fm (show (15 : Nat) ≠ 2 by decide)
        have hk_7 := kp_up (kp_rf (P := (fun q u => q = mk ∨ u = (15, mk))) (h := hh)) eh_1 fm (Or.inl rfl)
        have hx3 : LBb D h_1 x bl yl A bs Y ys pn tb := LBb_out ⟨fX, hA, hY, hbs, hys, hnd, hnd2⟩ fm hmA hmY (Or.inr rfl) hk_7
        have hkC : kp P_LB h h_1 := kp_tr hkk (mk_LB fm hk_7)
        exact g_vret X (⟨rfl, cf, fun j hj => hcf j (by omega), ⟨bl, yl, hx3⟩, ⟨q1, f_5, f_6⟩, hkC⟩) (by decide) (by decide) d_LB_recordCuts_56
      · exfalso
        omega
    | succ d ih =>
      intro i hh cf ls hi hcf hx2 hm2 hkk hl
      obtain ⟨bl, yl, fX, hA, hY, hbs, hys, hnd, hnd2⟩ := id hx2
      obtain ⟨eb, mb, fbl, -⟩ := id hA
      obtain ⟨ey, my, fyl, -⟩ := id hY
      obtain ⟨q1, fm, fq⟩ := id hm2
      have hmA := LY_neA (D := D) ⟨fX, hA, hY, hbs, hys, hnd, hnd2⟩ fm
      have hk1 := hbs i (by omega)
      have hw1 := hwf i (by omega)
      have ht := hw1.1.2.2.1
      have hs := hw1.1.2.1
      have hp0 := hw1.1.1
      obtain ⟨p1, p2, p3, fb, -⟩ := id hk1
      refine g_1 (fun w => lv_iload_n X.1 X.2.1 d_LB_recordCuts_2 rfl (lv_at hl 0 rfl) w) ?_
      refine g_1 (fun w => lv_aload_n X.1 X.2.1 d_LB_recordCuts_3 rfl (lv_at hl 2 rfl) w) ?_
      refine g_get X (ci := 0) rfl fX 0 (by decide) ⟨rfl, rfl⟩ tw_55 (Or.inl rfl) rfl d_LB_recordCuts_4 ?_
      refine g_callV (na := 0) X (c_AL_size B0 hA) rfl fbl rfl ⟨⟨tw_87, tw_4⟩, ⟨by decide, by decide, by decide +kernel⟩, by decide, by decide⟩ tw_84 tw_85 tw_86 rfl hl.1 (Nat.le_of_ble_eq_true rfl) ⟨by decide, by decide⟩ d_LB_recordCuts_7 (fun v h' hp => ?_)
      obtain ⟨rfl, rfl⟩ := hp
      refine g_widen (k' := 0) (n' := 0) (by decide) (by decide) ?_
      show G D s0 p l e _ s m _ below meth c hh _ _ _ (F0 m 10 ls [.int (iZ (A.length)), .int (iZ (i))])
      refine g_icmp_ge (tgt := 48) X (by first | (split <;> exact ⟨by omega, by omega⟩) | exact ⟨by omega, by omega⟩ | exact cmpZ_ok _ _) (by first | (split <;> exact ⟨by omega, by omega⟩) | exact ⟨by omega, by omega⟩ | exact cmpZ_ok _ _) d_LB_recordCuts_10 (by decide) (fun c10 => ?_) (fun c10 => ?_)
      · exfalso
        omega
      · refine g_1 (fun w => lv_iload_n X.1 X.2.1 d_LB_recordCuts_13 rfl (lv_at hl 0 rfl) w) ?_
        refine g_1 (fun w => lv_aload_n X.1 X.2.1 d_LB_recordCuts_14 rfl (lv_at hl 1 rfl) w) ?_
        refine g_getN X (ci := 2) rfl fm 0 (by decide) ⟨rfl, rfl⟩ tw_397 rfl d_LB_recordCuts_15 ?_
        refine g_aleni X fq d_LB_recordCuts_18 ?_
        refine g_icmp_ge (tgt := 48) X (by first | (split <;> exact ⟨by omega, by omega⟩) | exact ⟨by omega, by omega⟩ | exact cmpZ_ok _ _) (by first | (split <;> exact ⟨by omega, by omega⟩) | exact ⟨by omega, by omega⟩ | exact cmpZ_ok _ _) d_LB_recordCuts_19 (by decide) (fun c19 => ?_) (fun c19 => ?_)
        · exfalso
          omega
        · refine g_1 (fun w => lv_aload_n X.1 X.2.1 d_LB_recordCuts_22 rfl (lv_at hl 1 rfl) w) ?_
          refine g_getN X (ci := 2) rfl fm 0 (by decide) ⟨rfl, rfl⟩ tw_397 rfl d_LB_recordCuts_23 ?_
          refine g_1 (fun w => lv_iload_n X.1 X.2.1 d_LB_recordCuts_26 rfl (lv_at hl 0 rfl) w) ?_
          refine g_1 (fun w => lv_aload_n X.1 X.2.1 d_LB_recordCuts_27 rfl (lv_at hl 2 rfl) w) ?_
          refine g_get X (ci := 0) rfl fX 0 (by decide) ⟨rfl, rfl⟩ tw_55 (Or.inl rfl) rfl d_LB_recordCuts_28 ?_
          refine g_1 (fun w => lv_iload_n X.1 X.2.1 d_LB_recordCuts_31 rfl (lv_at hl 0 rfl) w) ?_
          refine g_callV (na := 1) X (c_AL_get B0 hA i (by omega)) rfl fbl rfl ⟨⟨tw_91, tw_4⟩, ⟨by decide, by decide, by decide +kernel⟩, by decide, by decide⟩ tw_88 tw_89 tw_90 rfl hl.1 (Nat.le_of_ble_eq_true rfl) ⟨by decide, by decide⟩ d_LB_recordCuts_32 (fun v h' hp => ?_)
          obtain ⟨rfl, rfl⟩ := hp
          refine g_widen (k' := 0) (n' := 0) (by decide) (by decide) ?_
          show G D s0 p l e _ s m _ below meth c hh _ _ _ (F0 m 35 ls [.ref (A.getD i 0), .int (iZ (i)), .ref q1])
          refine g_cast X fb rfl tw_102 tw_652 d_LB_recordCuts_35 ?_
          refine g_getN X (ci := 1) rfl fb 6 (by decide) ⟨rfl, rfl⟩ tw_201 rfl d_LB_recordCuts_38 ?_
          refine g_ist X fq (Nat.succ_ne_zero _) (i) (rfl) (by omega) (by omega) d_LB_recordCuts_41 ?_
          obtain ⟨h_1, eh_1⟩ : ∃ z, z = g_up hh q1 ((15, mk), gI D A.length (va_up (cf) (i) (bL (bs i)))) := ⟨_, rfl⟩
          refine g_h (h' := h_1) eh_1.symm ?_
          have f_2 : h_1 x = some ((3, 0), .inr (0, [.ref bl, .ref yl, .int (iZ (pn)), .int (iZ (tb))])) := by rw [eh_1]; exact g_uk fX fq (show (3 : Nat) ≠ 15 by decide)
          have f_3 : h_1 bl = some ((5, 0), .inr (3, [.ref eb, .int (iZ (A.length)), .int (iZ (mb))])) := by rw [eh_1]; exact g_uk fbl fq (show (5 : Nat) ≠ 15 by decide)
          have f_4 : h_1 yl = some ((5, 1), .inr (3, [.ref ey, .int (iZ (Y.length)), .int (iZ (my))])) := by rw [eh_1]; exact g_uk fyl fq (show (5 : Nat) ≠ 15 by decide)
          have f_5 : h_1 (A.getD i 0) = some ((1, 0), .inr (1, [.ref p1, .ref p2, .ref p3, .int (iZ (bP (bs i))), .int (iZ (bS (bs i))), .int (iZ (bT (bs i))), .int (iZ (bL (bs i)))])) := by rw [eh_1]; exact g_uk fb fq (show (1 : Nat) ≠ 15 by decide)
          have f_6 : h_1 mk = some ((2, 0), .inr (2, [.ref q1, .int (iZ (y.2.2.1)), .long (lZ (y.2.2.2.1)), .int (iZ (y.2.2.2.2))])) := by rw [eh_1]; exact g_uk fm fq (show (2 : Nat) ≠ 15 by decide)
          have f_7 : h_1 q1 = some ((15, mk), gI D A.length (va_up (cf) (i) (bL (bs i)))) := by rw [eh_1]; exact g_us
          have hk_8 := kp_up (kp_rf (P := (fun q u => q = mk ∨ u = (15, mk))) (h := hh)) eh_1 fq (Or.inr rfl)
          refine g_s (fun kk => lv_iinc (v := iZ (i + 1)) (lv' := [(2, .int (iZ (i + 1))), (1, .ref mk), (0, .ref x)]) X.1 X.2.1 d_LB_recordCuts_42 hl (k := 0) rfl (iZ_add _ _) (by decide) rfl kk) (fun ls hl => ?_)
          refine g_goto (tgt := 2) X d_LB_recordCuts_45 (by decide) ?_
          have hx3 : LBb D h_1 x bl yl A bs Y ys pn tb := LBb_out ⟨fX, hA, hY, hbs, hys, hnd, hnd2⟩ fm hmA hmY (Or.inr rfl) hk_8
          exact ih (i + 1) h_1 (va_up cf i (bL (bs i))) ls (by omega) (fun j hj => by
            by_cases e : j = i
            · rw [e, va_up_self]
            · rw [va_up_ne _ _ e]; exact hcf j (by omega)) ⟨bl, yl, hx3⟩ ⟨q1, f_6, f_7⟩ (kp_tr hkk (mk_LB fm hk_8)) (lv_sub hl [0, 1, 2] rfl)
  refine g_1 (fun w => lv_iconst (v := iZ 0) X.1 X.2.1 d_LB_recordCuts_0 rfl w) ?_
  refine g_s (fun kk => lv_istore_n (lv' := [(2, .int (iZ (0))), (0, .ref x), (1, .ref mk)]) X.1 X.2.1 d_LB_recordCuts_1 rfl hl (by decide) rfl kk) (fun ls hl => ?_)
  exact loop A.length 0 h y.2.1 ls (by omega) (fun j hj => absurd hj (Nat.not_lt_zero _)) hx (by rw [← hy]; exact hm) kp_rf (lv_sub hl [0, 2, 1] rfl)
