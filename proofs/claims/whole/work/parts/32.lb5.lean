set_option maxHeartbeats 4000000 in
set_option maxRecDepth 100000 in
theorem c_LB_takeAllPasses {D : va_G} {s0 : State} {l : Launch} {h : gH} (B0 : gB D s0) {x : Nat} {A Y : List Nat} {bs : Nat → Blk} {ys : Nat → Lay} {pn tb : Int} (hx : isLB D h x A bs Y ys pn tb) (hAl : A.length ≤ 1024) (hYl : Y.length ≤ 64) (hwf : ∀ i, i < A.length → wfB (bs i)) : gMet D s0 l y_LB_takeAllPasses b_LB_takeAllPasses 3 none ({ frames := 3, cells := 0, slots := 0, locals := 64 } : Room) [.ref x] h (fun v h' => none = v ∧ isLB D h' x A (fun j => tka (bs j)) Y ys pn (sm (fun j => bB (bs j) (bP (bs j))) A.length) ∧ kp P_XB h h') := by
  obtain ⟨bl, yl, fX, hA, hY, hbs, hys, hnd, hnd2⟩ := id hx
  obtain ⟨eb, mb, fbl, -⟩ := id hA
  obtain ⟨ey, my, fyl, -⟩ := id hY
  refine g_enter B0 (plainFor_of_name (by decide)) (Nat.le_of_ble_eq_true rfl) (fun p e s m below meth c ls X hnm hl => ?_)
  have hl : lv_has ls 3 [(0, .ref x)] := hl
  have loop : ∀ (d i : Nat) (hh : gH) (ls : Array Slot), i + d = A.length → isLB D hh x A (upto tka bs i) Y ys pn (sm (fun j => bB (bs j) (bP (bs j))) i) → kp P_XB h hh → lv_has ls 3 [(1, .int (iZ (i))), (0, .ref x)] → G D s0 p l e ({ frames := 3, cells := 0, slots := 0, locals := 64 } : Room) s m ([.ref x] : List Value).toArray below meth c hh 0 0 (MQ below (gQ D s0 (fun v h' => none = v ∧ isLB D h' x A (fun j => tka (bs j)) Y ys pn (sm (fun j => bB (bs j) (bP (bs j))) A.length) ∧ kp P_XB h h')) ([.ref x] : List Value).toArray s 0 0 (fun q => s0.heap.size ≤ q)) (F0 m 7 ls []) := by
    intro d
    induction d with
    | zero =>
      intro i hh ls hi hx2 hkk hl
      obtain ⟨bl, yl, fX, hA, hY, hbs, hys, hnd, hnd2⟩ := id hx2
      obtain ⟨eb, mb, fbl, -⟩ := id hA
      obtain ⟨ey, my, fyl, -⟩ := id hY
      refine g_1 (fun w => lv_iload_n X.1 X.2.1 d_LB_takeAllPasses_7 rfl (lv_at hl 0 rfl) w) ?_
      refine g_1 (fun w => lv_aload_n X.1 X.2.1 d_LB_takeAllPasses_8 rfl (lv_at hl 1 rfl) w) ?_
      refine g_get X (ci := 0) rfl fX 0 (by decide) ⟨rfl, rfl⟩ tw_55 (Or.inl rfl) rfl d_LB_takeAllPasses_9 ?_
      refine g_callV (na := 0) X (c_AL_size B0 hA) rfl fbl rfl ⟨⟨tw_87, tw_4⟩, ⟨by decide, by decide, by decide +kernel⟩, by decide, by decide⟩ tw_84 tw_85 tw_86 rfl hl.1 (Nat.le_of_ble_eq_true rfl) ⟨by decide, by decide⟩ d_LB_takeAllPasses_12 (fun v h' hp => ?_)
      obtain ⟨rfl, rfl⟩ := hp
      refine g_widen (k' := 0) (n' := 0) (by decide) (by decide) ?_
      show G D s0 p l e _ s m _ below meth c hh _ _ _ (F0 m 15 ls [.int (iZ (A.length)), .int (iZ (i))])
      refine g_icmp_ge (tgt := 53) X (by first | (split <;> exact ⟨by omega, by omega⟩) | exact ⟨by omega, by omega⟩ | exact cmpZ_ok _ _) (by first | (split <;> exact ⟨by omega, by omega⟩) | exact ⟨by omega, by omega⟩ | exact cmpZ_ok _ _) d_LB_takeAllPasses_15 (by decide) (fun c15 => ?_) (fun c15 => ?_)
      · have hei : i = A.length := by omega
        subst hei
        have hfin := hx2.congr (bs2 := fun j => tka (bs j)) (fun j hj => upto_lt hj)
        exact g_vret X (⟨rfl, hfin, hkk⟩) (by decide) (by decide) d_LB_takeAllPasses_53
      · exfalso
        omega
    | succ d ih =>
      intro i hh ls hi hx2 hkk hl
      obtain ⟨bl, yl, fX, hA, hY, hbs, hys, hnd, hnd2⟩ := id hx2
      obtain ⟨eb, mb, fbl, -⟩ := id hA
      obtain ⟨ey, my, fyl, -⟩ := id hY
      have hb1 : isBk D hh (A.getD i 0) (bs i) := by have z := hbs i (by omega); rw [upto_at] at z; exact z
      obtain ⟨p1, p2, p3, fb, -⟩ := id hb1
      refine g_1 (fun w => lv_iload_n X.1 X.2.1 d_LB_takeAllPasses_7 rfl (lv_at hl 0 rfl) w) ?_
      refine g_1 (fun w => lv_aload_n X.1 X.2.1 d_LB_takeAllPasses_8 rfl (lv_at hl 1 rfl) w) ?_
      refine g_get X (ci := 0) rfl fX 0 (by decide) ⟨rfl, rfl⟩ tw_55 (Or.inl rfl) rfl d_LB_takeAllPasses_9 ?_
      refine g_callV (na := 0) X (c_AL_size B0 hA) rfl fbl rfl ⟨⟨tw_87, tw_4⟩, ⟨by decide, by decide, by decide +kernel⟩, by decide, by decide⟩ tw_84 tw_85 tw_86 rfl hl.1 (Nat.le_of_ble_eq_true rfl) ⟨by decide, by decide⟩ d_LB_takeAllPasses_12 (fun v h' hp => ?_)
      obtain ⟨rfl, rfl⟩ := hp
      refine g_widen (k' := 0) (n' := 0) (by decide) (by decide) ?_
      show G D s0 p l e _ s m _ below meth c hh _ _ _ (F0 m 15 ls [.int (iZ (A.length)), .int (iZ (i))])
      refine g_icmp_ge (tgt := 53) X (by first | (split <;> exact ⟨by omega, by omega⟩) | exact ⟨by omega, by omega⟩ | exact cmpZ_ok _ _) (by first | (split <;> exact ⟨by omega, by omega⟩) | exact ⟨by omega, by omega⟩ | exact cmpZ_ok _ _) d_LB_takeAllPasses_15 (by decide) (fun c15 => ?_) (fun c15 => ?_)
      · exfalso
        omega
      · refine g_1 (fun w => lv_aload_n X.1 X.2.1 d_LB_takeAllPasses_18 rfl (lv_at hl 1 rfl) w) ?_
        refine g_get X (ci := 0) rfl fX 0 (by decide) ⟨rfl, rfl⟩ tw_55 (Or.inl rfl) rfl d_LB_takeAllPasses_19 ?_
        refine g_1 (fun w => lv_iload_n X.1 X.2.1 d_LB_takeAllPasses_22 rfl (lv_at hl 0 rfl) w) ?_
        refine g_callV (na := 1) X (c_AL_get B0 hA i (by omega)) rfl fbl rfl ⟨⟨tw_91, tw_4⟩, ⟨by decide, by decide, by decide +kernel⟩, by decide, by decide⟩ tw_88 tw_89 tw_90 rfl hl.1 (Nat.le_of_ble_eq_true rfl) ⟨by decide, by decide⟩ d_LB_takeAllPasses_23 (fun v h' hp => ?_)
        obtain ⟨rfl, rfl⟩ := hp
        refine g_widen (k' := 0) (n' := 0) (by decide) (by decide) ?_
        show G D s0 p l e _ s m _ below meth c hh _ _ _ (F0 m 26 ls [.ref (A.getD i 0)])
        refine g_cast X fb rfl tw_102 tw_652 d_LB_takeAllPasses_26 ?_
        refine g_s (fun kk => lv_astore_n (lv' := [(2, .ref (A.getD i 0)), (1, .int (iZ (i))), (0, .ref x)]) X.1 X.2.1 d_LB_takeAllPasses_29 rfl hl (by decide) rfl kk) (fun ls hl => ?_)
        refine g_1 (fun w => lv_aload_n X.1 X.2.1 d_LB_takeAllPasses_30 rfl (lv_at hl 0 rfl) w) ?_
        refine g_callVN (na := 0) X (c_BK_takeEverything B0 hb1 (hwf i (by omega)).1) rfl fb rfl ⟨⟨tw_419, tw_12⟩, ⟨by decide, by decide, by decide +kernel⟩, by decide, by decide⟩ tw_416 tw_418 ts_BK_takeEverything rfl hl.1 (Nat.le_of_ble_eq_true rfl) ⟨by decide, by decide⟩ d_LB_takeAllPasses_31 (fun v h' hp => ?_)
        obtain ⟨rfl, hb2, hk2⟩ := hp
        have hx3 : isLB D h' x A (upto tka bs (i + 1)) Y ys pn (sm (fun j => bB (bs j) (bP (bs j))) i) := by rw [← upto_succ]; exact hx2.setB (by omega) hb2 hk2
        have hk3 := kp_tr hkk (BB_XB (kpB_BB hb1 hk2))
        obtain ⟨bl, yl, fX, hA, hY, hbs, hys, hnd, hnd2⟩ := id hx3
        obtain ⟨eb, mb, fbl, -⟩ := id hA
        obtain ⟨ey, my, fyl, -⟩ := id hY
        obtain ⟨p1, p2, p3, fb, -⟩ := id hb2
        refine g_widen (k' := 0) (n' := 0) (by decide) (by decide) ?_
        show G D s0 p l e _ s m _ below meth c h' _ _ _ (F0 m 34 ls [])
        refine g_1 (fun w => lv_aload_n X.1 X.2.1 d_LB_takeAllPasses_34 rfl (lv_at hl 2 rfl) w) ?_
        refine g_1 (fun w => lv_dup X.1 X.2.1 d_LB_takeAllPasses_35 rfl w) ?_
        refine g_get X (ci := 0) rfl fX 3 (by decide) ⟨rfl, rfl⟩ tw_58 (Or.inl rfl) rfl d_LB_takeAllPasses_36 ?_
        refine g_1 (fun w => lv_aload_n X.1 X.2.1 d_LB_takeAllPasses_39 rfl (lv_at hl 0 rfl) w) ?_
        refine g_callVN (na := 0) X (c_BK_allBytes B0 hb2 (okB_tka (hwf i (by omega)).1)) rfl fb rfl ⟨⟨tw_423, tw_12⟩, ⟨by decide, by decide, by decide +kernel⟩, by decide, by decide⟩ tw_420 tw_422 ts_BK_allBytes rfl hl.1 (Nat.le_of_ble_eq_true rfl) ⟨by decide, by decide⟩ d_LB_takeAllPasses_40 (fun v h' hp => ?_)
        obtain ⟨rfl, rfl⟩ := hp
        refine g_widen (k' := 0) (n' := 0) (by decide) (by decide) ?_
        show G D s0 p l e _ s m _ below meth c h' _ _ _ (F0 m 43 ls [.int (iZ (bB (bs i) (bP (bs i)))), .int (iZ (sm (fun j => bB (bs j) (bP (bs j))) i)), .ref x])
        refine g_iadd X d_LB_takeAllPasses_43 ?_
        refine g_put X (ci := 0) rfl fX (Nat.succ_ne_zero _) 3 (by decide) ⟨rfl, rfl⟩ tw_58 (Or.inl rfl) rfl rfl rfl (Nat.le_of_ble_eq_true rfl) d_LB_takeAllPasses_44 ?_
        obtain ⟨h_1, eh_1⟩ : ∃ z, z = g_up h' x ((3, 0), .inr (0, [.ref bl, .ref yl, .int (iZ (pn)), .int (iZ (sm (fun j => bB (bs j) (bP (bs j))) i + (bB (bs i) (bP (bs i)))))])) := ⟨_, rfl⟩
        refine g_h (h' := h_1) eh_1.symm ?_
        have f_2 : h_1 x = some ((3, 0), .inr (0, [.ref bl, .ref yl, .int (iZ (pn)), .int (iZ (sm (fun j => bB (bs j) (bP (bs j))) i + (bB (bs i) (bP (bs i)))))])) := by rw [eh_1]; exact g_us
        have f_3 : h_1 bl = some ((5, 0), .inr (3, [.ref eb, .int (iZ (A.length)), .int (iZ (mb))])) := by rw [eh_1]; exact g_uk fbl fX (show (5 : Nat) ≠ 3 by decide)
        have f_4 : h_1 yl = some ((5, 1), .inr (3, [.ref ey, .int (iZ (Y.length)), .int (iZ (my))])) := by rw [eh_1]; exact g_uk fyl fX (show (5 : Nat) ≠ 3 by decide)
        have f_5 : h_1 (A.getD i 0) = some ((1, 0), .inr (1, [.ref p1, .ref p2, .ref p3, .int (iZ (bP (bs i))), .int (iZ (bS (bs i))), .int (iZ (bS (bs i))), .int (iZ (bP (bs i)))])) := by rw [eh_1]; exact g_uk fb fX (show (1 : Nat) ≠ 3 by decide)
        have hk_6 := kp_up (hk3) eh_1 fX (Or.inr (Or.inl rfl))
        refine g_s (fun kk => lv_iinc (v := iZ (i + 1)) (lv' := [(1, .int (iZ (i + 1))), (2, .ref (A.getD i 0)), (0, .ref x)]) X.1 X.2.1 d_LB_takeAllPasses_47 hl (k := 1) rfl (iZ_add _ _) (by decide) rfl kk) (fun ls hl => ?_)
        refine g_goto (tgt := 7) X d_LB_takeAllPasses_50 (by decide) ?_
        exact ih (i + 1) h_1 ls (by omega) (hx3.setX fX eh_1) hk_6 (lv_sub hl [0, 2] rfl)
  refine g_1 (fun w => lv_aload_n X.1 X.2.1 d_LB_takeAllPasses_0 rfl (lv_at hl 0 rfl) w) ?_
  refine g_1 (fun w => lv_iconst (v := iZ 0) X.1 X.2.1 d_LB_takeAllPasses_1 rfl w) ?_
  refine g_put X (ci := 0) rfl fX (Nat.succ_ne_zero _) 3 (by decide) ⟨rfl, rfl⟩ tw_58 (Or.inl rfl) rfl rfl rfl (Nat.le_of_ble_eq_true rfl) d_LB_takeAllPasses_2 ?_
  obtain ⟨h_1, eh_1⟩ : ∃ z, z = g_up h x ((3, 0), .inr (0, [.ref bl, .ref yl, .int (iZ (pn)), .int (iZ (0))])) := ⟨_, rfl⟩
  refine g_h (h' := h_1) eh_1.symm ?_
  have f_2 : h_1 x = some ((3, 0), .inr (0, [.ref bl, .ref yl, .int (iZ (pn)), .int (iZ (0))])) := by rw [eh_1]; exact g_us
  have f_3 : h_1 bl = some ((5, 0), .inr (3, [.ref eb, .int (iZ (A.length)), .int (iZ (mb))])) := by rw [eh_1]; exact g_uk fbl fX (show (5 : Nat) ≠ 3 by decide)
  have f_4 : h_1 yl = some ((5, 1), .inr (3, [.ref ey, .int (iZ (Y.length)), .int (iZ (my))])) := by rw [eh_1]; exact g_uk fyl fX (show (5 : Nat) ≠ 3 by decide)
  have hk_5 := kp_up (kp_rf (P := P_XB) (h := h)) eh_1 fX (Or.inr (Or.inl rfl))
  refine g_1 (fun w => lv_iconst (v := iZ 0) X.1 X.2.1 d_LB_takeAllPasses_5 rfl w) ?_
  refine g_s (fun kk => lv_istore_n (lv' := [(1, .int (iZ (0))), (0, .ref x)]) X.1 X.2.1 d_LB_takeAllPasses_6 rfl hl (by decide) rfl kk) (fun ls hl => ?_)
  exact loop A.length 0 h_1 ls (by omega) (by rw [upto_0]; exact hx.setX fX eh_1) hk_5 (lv_sub hl [0, 1] rfl)

set_option maxHeartbeats 4000000 in
set_option maxRecDepth 100000 in
theorem c_LB_steepestBlock {D : va_G} {s0 : State} {l : Launch} {h : gH} (B0 : gB D s0) {x : Nat} {A Y : List Nat} {bs : Nat → Blk} {ys : Nat → Lay} {pn tb : Int} (hx : isLB D h x A bs Y ys pn tb) (hAl : A.length ≤ 1024) (hYl : Y.length ≤ 64) (hwf : ∀ i, i < A.length → wfB (bs i)) : gMet D s0 l y_LB_steepestBlock b_LB_steepestBlock 10 (some .int) ({ frames := 3, cells := 0, slots := 0, locals := 64 } : Room) [.ref x] h (fun v h' => some (.int (iZ ((stp bs A.length : Int) - 1))) = v ∧ h = h') := by
  obtain ⟨bl, yl, fX, hA, hY, hbs, hys, hnd, hnd2⟩ := id hx
  obtain ⟨eb, mb, fbl, -⟩ := id hA
  obtain ⟨ey, my, fyl, -⟩ := id hY
  refine g_enter B0 (plainFor_of_name (by decide)) (Nat.le_of_ble_eq_true rfl) (fun p e s m below meth c ls X hnm hl => ?_)
  have hl : lv_has ls 10 [(0, .ref x)] := hl
  have loop : ∀ (d i r : Nat) (g1 n1 : Int) (ls : Array Slot), i + d = A.length → stp bs i = r → (r ≠ 0 → g1 = nG (bs (r - 1)) ∧ n1 = nB (bs (r - 1))) → (-65970697666560 ≤ g1 ∧ g1 ≤ 65970697666560 ∧ 0 ≤ n1 ∧ n1 ≤ 65535) → lv_has ls 10 [(5, .int (iZ (i))), (1, .int (iZ ((r : Int) - 1))), (2, .long (lZ (g1))), (4, .int (iZ (n1))), (0, .ref x)] → G D s0 p l e ({ frames := 3, cells := 0, slots := 0, locals := 64 } : Room) s m ([.ref x] : List Value).toArray below meth c h 0 0 (MQ below (gQ D s0 (fun v h' => some (.int (iZ ((stp bs A.length : Int) - 1))) = v ∧ h = h')) ([.ref x] : List Value).toArray s 0 0 (fun q => s0.heap.size ≤ q)) (F0 m 10 ls []) := by
    intro d
    induction d with
    | zero =>
      intro i r g1 n1 ls hi er eg hgb hl
      have hr := stp_le bs i
      refine g_1 (fun w => lv_iload X.1 X.2.1 d_LB_steepestBlock_10 (lv_at hl 0 rfl) w) ?_
      refine g_1 (fun w => lv_aload_n X.1 X.2.1 d_LB_steepestBlock_12 rfl (lv_at hl 4 rfl) w) ?_
      refine g_get X (ci := 0) rfl fX 0 (by decide) ⟨rfl, rfl⟩ tw_55 (Or.inl rfl) rfl d_LB_steepestBlock_13 ?_
      refine g_callV (na := 0) X (c_AL_size B0 hA) rfl fbl rfl ⟨⟨tw_87, tw_4⟩, ⟨by decide, by decide, by decide +kernel⟩, by decide, by decide⟩ tw_84 tw_85 tw_86 rfl hl.1 (Nat.le_of_ble_eq_true rfl) ⟨by decide, by decide⟩ d_LB_steepestBlock_16 (fun v h' hp => ?_)
      obtain ⟨rfl, rfl⟩ := hp
      refine g_widen (k' := 0) (n' := 0) (by decide) (by decide) ?_
      show G D s0 p l e _ s m _ below meth c h _ _ _ (F0 m 19 ls [.int (iZ (A.length)), .int (iZ (i))])
      refine g_icmp_ge (tgt := 95) X (by first | (split <;> exact ⟨by omega, by omega⟩) | exact ⟨by omega, by omega⟩ | exact cmpZ_ok _ _) (by first | (split <;> exact ⟨by omega, by omega⟩) | exact ⟨by omega, by omega⟩ | exact cmpZ_ok _ _) d_LB_steepestBlock_19 (by decide) (fun c19 => ?_) (fun c19 => ?_)
      · refine g_1 (fun w => lv_iload_n X.1 X.2.1 d_LB_steepestBlock_95 rfl (lv_at hl 1 rfl) w) ?_
        exact g_iret X (⟨by rw [show A.length = i by omega, er], rfl⟩) (by decide) (by decide) d_LB_steepestBlock_96
      · exfalso
        omega
    | succ d ih =>
      intro i r g1 n1 ls hi er eg hgb hl
      obtain ⟨gb1, gb2, gb3, gb4⟩ := id hgb
      have hr := stp_le bs i
      have hb1 := hbs i (by omega)
      have hw1 := hwf i (by omega)
      have wb := nB_bd hw1
      have ht := hw1.1.2.2.1
      have hs := hw1.1.2.1
      have hp0 := hw1.1.1
      obtain ⟨p1, p2, p3, fb, -⟩ := id hb1
      refine g_1 (fun w => lv_iload X.1 X.2.1 d_LB_steepestBlock_10 (lv_at hl 0 rfl) w) ?_
      refine g_1 (fun w => lv_aload_n X.1 X.2.1 d_LB_steepestBlock_12 rfl (lv_at hl 4 rfl) w) ?_
      refine g_get X (ci := 0) rfl fX 0 (by decide) ⟨rfl, rfl⟩ tw_55 (Or.inl rfl) rfl d_LB_steepestBlock_13 ?_
      refine g_callV (na := 0) X (c_AL_size B0 hA) rfl fbl rfl ⟨⟨tw_87, tw_4⟩, ⟨by decide, by decide, by decide +kernel⟩, by decide, by decide⟩ tw_84 tw_85 tw_86 rfl hl.1 (Nat.le_of_ble_eq_true rfl) ⟨by decide, by decide⟩ d_LB_steepestBlock_16 (fun v h' hp => ?_)
      obtain ⟨rfl, rfl⟩ := hp
      refine g_widen (k' := 0) (n' := 0) (by decide) (by decide) ?_
      show G D s0 p l e _ s m _ below meth c h _ _ _ (F0 m 19 ls [.int (iZ (A.length)), .int (iZ (i))])
      refine g_icmp_ge (tgt := 95) X (by first | exact cmpZ_ok _ _ | (split <;> exact ⟨by omega, by omega⟩) | exact ⟨by omega, by omega⟩) (by first | exact cmpZ_ok _ _ | (split <;> exact ⟨by omega, by omega⟩) | exact ⟨by omega, by omega⟩) d_LB_steepestBlock_19 (by decide) (fun c19 => ?_) (fun c19 => ?_)
      · exfalso
        omega
      · refine g_1 (fun w => lv_aload_n X.1 X.2.1 d_LB_steepestBlock_22 rfl (lv_at hl 4 rfl) w) ?_
        refine g_get X (ci := 0) rfl fX 0 (by decide) ⟨rfl, rfl⟩ tw_55 (Or.inl rfl) rfl d_LB_steepestBlock_23 ?_
        refine g_1 (fun w => lv_iload X.1 X.2.1 d_LB_steepestBlock_26 (lv_at hl 0 rfl) w) ?_
        refine g_callV (na := 1) X (c_AL_get B0 hA i (by omega)) rfl fbl rfl ⟨⟨tw_91, tw_4⟩, ⟨by decide, by decide, by decide +kernel⟩, by decide, by decide⟩ tw_88 tw_89 tw_90 rfl hl.1 (Nat.le_of_ble_eq_true rfl) ⟨by decide, by decide⟩ d_LB_steepestBlock_28 (fun v h' hp => ?_)
        obtain ⟨rfl, rfl⟩ := hp
        refine g_widen (k' := 0) (n' := 0) (by decide) (by decide) ?_
        show G D s0 p l e _ s m _ below meth c h _ _ _ (F0 m 31 ls [.ref (A.getD i 0)])
        refine g_cast X fb rfl tw_102 tw_652 d_LB_steepestBlock_31 ?_
        refine g_s (fun kk => lv_astore (lv' := [(6, .ref (A.getD i 0)), (5, .int (iZ (i))), (1, .int (iZ ((r : Int) - 1))), (2, .long (lZ (g1))), (4, .int (iZ (n1))), (0, .ref x)]) X.1 X.2.1 d_LB_steepestBlock_34 hl (by decide) rfl kk) (fun ls hl => ?_)
        refine g_1 (fun w => lv_aload X.1 X.2.1 d_LB_steepestBlock_36 (lv_at hl 0 rfl) w) ?_
        refine g_callVN (na := 0) X (c_BK_hasNext B0 hb1 hw1.1) rfl fb rfl ⟨⟨tw_435, tw_12⟩, ⟨by decide, by decide, by decide +kernel⟩, by decide, by decide⟩ tw_432 tw_434 ts_BK_hasNext rfl hl.1 (Nat.le_of_ble_eq_true rfl) ⟨by decide, by decide⟩ d_LB_steepestBlock_38 (fun v h' hp => ?_)
        obtain ⟨rfl, rfl⟩ := hp
        refine g_widen (k' := 0) (n' := 0) (by decide) (by decide) ?_
        show G D s0 p l e _ s m _ below meth c h _ _ _ (F0 m 41 ls [.int (iZ (if bT (bs i) < bS (bs i) then 1 else 0))])
        refine g_if_ne (tgt := 47) X (by first | exact cmpZ_ok _ _ | (split <;> exact ⟨by omega, by omega⟩) | exact ⟨by omega, by omega⟩) d_LB_steepestBlock_41 (by decide) (fun c41 => ?_) (fun c41 => ?_)
        · have c41 : hN (bs i) := if_1 c41
          have w0 := wb.1 c41
          refine g_1 (fun w => lv_aload X.1 X.2.1 d_LB_steepestBlock_47 (lv_at hl 0 rfl) w) ?_
          refine g_callVN (na := 0) X (c_BK_nextGain B0 hb1 hw1.1 (by omega)) rfl fb rfl ⟨⟨tw_439, tw_12⟩, ⟨by decide, by decide, by decide +kernel⟩, by decide, by decide⟩ tw_436 tw_438 ts_BK_nextGain rfl hl.1 (Nat.le_of_ble_eq_true rfl) ⟨by decide, by decide⟩ d_LB_steepestBlock_49 (fun v h' hp => ?_)
          obtain ⟨rfl, rfl⟩ := hp
          refine g_widen (k' := 0) (n' := 0) (by decide) (by decide) ?_
          show G D s0 p l e _ s m _ below meth c h _ _ _ (F0 m 52 ls [.long (lZ (nG (bs i)))])
          refine g_s (fun kk => lv_lstore (lv' := [(7, .long (lZ (nG (bs i)))), (6, .ref (A.getD i 0)), (5, .int (iZ (i))), (1, .int (iZ ((r : Int) - 1))), (2, .long (lZ (g1))), (4, .int (iZ (n1))), (0, .ref x)]) X.1 X.2.1 d_LB_steepestBlock_52 hl (by decide) rfl kk) (fun ls hl => ?_)
          refine g_1 (fun w => lv_aload X.1 X.2.1 d_LB_steepestBlock_54 (lv_at hl 1 rfl) w) ?_
          refine g_callVN (na := 0) X (c_BK_nextBytes B0 hb1 hw1.1 (by omega)) rfl fb rfl ⟨⟨tw_443, tw_12⟩, ⟨by decide, by decide, by decide +kernel⟩, by decide, by decide⟩ tw_440 tw_442 ts_BK_nextBytes rfl hl.1 (Nat.le_of_ble_eq_true rfl) ⟨by decide, by decide⟩ d_LB_steepestBlock_56 (fun v h' hp => ?_)
          obtain ⟨rfl, rfl⟩ := hp
          refine g_widen (k' := 0) (n' := 0) (by decide) (by decide) ?_
          show G D s0 p l e _ s m _ below meth c h _ _ _ (F0 m 59 ls [.int (iZ (nB (bs i)))])
          refine g_s (fun kk => lv_istore (lv' := [(9, .int (iZ (nB (bs i)))), (7, .long (lZ (nG (bs i)))), (6, .ref (A.getD i 0)), (5, .int (iZ (i))), (1, .int (iZ ((r : Int) - 1))), (2, .long (lZ (g1))), (4, .int (iZ (n1))), (0, .ref x)]) X.1 X.2.1 d_LB_steepestBlock_59 hl (by decide) rfl kk) (fun ls hl => ?_)
          refine g_1 (fun w => lv_iload_n X.1 X.2.1 d_LB_steepestBlock_61 rfl (lv_at hl 4 rfl) w) ?_
          refine g_1 (fun w => lv_iconst (v := iZ (-1)) X.1 X.2.1 d_LB_steepestBlock_62 rfl w) ?_
          refine g_icmp_eq (tgt := 79) X (by first | exact cmpZ_ok _ _ | (split <;> exact ⟨by omega, by omega⟩) | exact ⟨by omega, by omega⟩) (by first | exact cmpZ_ok _ _ | (split <;> exact ⟨by omega, by omega⟩) | exact ⟨by omega, by omega⟩) d_LB_steepestBlock_63 (by decide) (fun c63 => ?_) (fun c63 => ?_)
          · refine g_1 (fun w => lv_iload X.1 X.2.1 d_LB_steepestBlock_79 (lv_at hl 3 rfl) w) ?_
            refine g_s (fun kk => lv_istore_n (lv' := [(1, .int (iZ (i))), (9, .int (iZ (nB (bs i)))), (7, .long (lZ (nG (bs i)))), (6, .ref (A.getD i 0)), (5, .int (iZ (i))), (2, .long (lZ (g1))), (4, .int (iZ (n1))), (0, .ref x)]) X.1 X.2.1 d_LB_steepestBlock_81 rfl hl (by decide) rfl kk) (fun ls hl => ?_)
            refine g_1 (fun w => lv_lload X.1 X.2.1 d_LB_steepestBlock_82 (lv_at hl 2 rfl) w) ?_
            refine g_s (fun kk => lv_lstore_n (lv' := [(2, .long (lZ (nG (bs i)))), (1, .int (iZ (i))), (9, .int (iZ (nB (bs i)))), (7, .long (lZ (nG (bs i)))), (6, .ref (A.getD i 0)), (5, .int (iZ (i))), (4, .int (iZ (n1))), (0, .ref x)]) X.1 X.2.1 d_LB_steepestBlock_84 rfl hl (by decide) rfl kk) (fun ls hl => ?_)
            refine g_1 (fun w => lv_iload X.1 X.2.1 d_LB_steepestBlock_85 (lv_at hl 2 rfl) w) ?_
            refine g_s (fun kk => lv_istore (lv' := [(4, .int (iZ (nB (bs i)))), (2, .long (lZ (nG (bs i)))), (1, .int (iZ (i))), (9, .int (iZ (nB (bs i)))), (7, .long (lZ (nG (bs i)))), (6, .ref (A.getD i 0)), (5, .int (iZ (i))), (0, .ref x)]) X.1 X.2.1 d_LB_steepestBlock_87 hl (by decide) rfl kk) (fun ls hl => ?_)
            refine g_s (fun kk => lv_iinc (v := iZ (i + 1)) (lv' := [(5, .int (iZ (i + 1))), (4, .int (iZ (nB (bs i)))), (2, .long (lZ (nG (bs i)))), (1, .int (iZ (i))), (9, .int (iZ (nB (bs i)))), (7, .long (lZ (nG (bs i)))), (6, .ref (A.getD i 0)), (0, .ref x)]) X.1 X.2.1 d_LB_steepestBlock_89 hl (k := 6) rfl (iZ_add _ _) (by decide) rfl kk) (fun ls hl => ?_)
            refine g_goto (tgt := 10) X d_LB_steepestBlock_92 (by decide) ?_
            have e9 : stp bs (i + 1) = i + 1 := stp_t c41 (by first | exact Or.inl (by omega) | exact Or.inr (by
              have z := cmpZ_gt.mp c76
              have y := eg (by omega)
              rw [er, ← y.1, ← y.2]
              exact z))
            have hl := lv_sub hl [0, 3, 2, 1, 7] rfl
            have hl : lv_has ls 10 [(5, .int (iZ ((i + 1 : Nat) : Int))), (1, .int (iZ (((i + 1 : Nat) : Int) - 1))), (2, .long (lZ (nG (bs i)))), (4, .int (iZ (nB (bs i)))), (0, .ref x)] := by rw [show (((i + 1 : Nat) : Int) - 1) = i by omega]; exact hl
            exact ih (i + 1) (i + 1) (nG (bs i)) (nB (bs i)) ls (by omega) e9 (fun _ => ⟨rfl, rfl⟩) ⟨by omega, by omega, by omega, by omega⟩ hl
          · refine g_1 (fun w => lv_lload X.1 X.2.1 d_LB_steepestBlock_66 (lv_at hl 1 rfl) w) ?_
            refine g_1 (fun w => lv_iload X.1 X.2.1 d_LB_steepestBlock_68 (lv_at hl 0 rfl) w) ?_
            refine g_1 (fun w => lv_lload_n X.1 X.2.1 d_LB_steepestBlock_70 rfl (lv_at hl 5 rfl) w) ?_
            refine g_1 (fun w => lv_iload X.1 X.2.1 d_LB_steepestBlock_71 (lv_at hl 6 rfl) w) ?_
            refine g_callS (na := 4) X (c_LB_compareSlopes B0 ⟨by omega, by omega⟩ ⟨by omega, by omega⟩ (mul_ok (by omega) (by omega) (by omega) (by omega)) (mul_ok (by omega) (by omega) (by omega) (by omega))) rfl ⟨⟨tw_334, tw_1⟩, ⟨by decide, by decide, by decide +kernel⟩, by decide, by decide⟩ tw_444 tw_333 rfl hl.1 (Nat.le_of_ble_eq_true rfl) ⟨by decide, by decide⟩ d_LB_steepestBlock_73 (fun v h' hp => ?_)
            obtain ⟨rfl, rfl⟩ := hp
            refine g_widen (k' := 0) (n' := 0) (by decide) (by decide) ?_
            show G D s0 p l e _ s m _ below meth c h _ _ _ (F0 m 76 ls [.int (iZ (cmpZ (nG (bs i) * n1) (g1 * nB (bs i))))])
            refine g_if_le (tgt := 89) X (cmpZ_ok _ _) d_LB_steepestBlock_76 (by decide) (fun c76 => ?_) (fun c76 => ?_)
            · refine g_s (fun kk => lv_iinc (v := iZ (i + 1)) (lv' := [(5, .int (iZ (i + 1))), (9, .int (iZ (nB (bs i)))), (7, .long (lZ (nG (bs i)))), (6, .ref (A.getD i 0)), (1, .int (iZ ((r : Int) - 1))), (2, .long (lZ (g1))), (4, .int (iZ (n1))), (0, .ref x)]) X.1 X.2.1 d_LB_steepestBlock_89 hl (k := 3) rfl (iZ_add _ _) (by decide) rfl kk) (fun ls hl => ?_)
              refine g_goto (tgt := 10) X d_LB_steepestBlock_92 (by decide) ?_
              have e9 : stp bs (i + 1) = r := (stp_f (fun w => by first | exact absurd w.1 c41 | (rcases w.2 with w2 | w2; omega; have y := eg (by omega); rw [er, ← y.1, ← y.2] at w2; have z := cmpZ_gt.mpr w2; omega))).trans er
              exact ih (i + 1) r g1 n1 ls (by omega) e9 eg hgb (lv_sub hl [0, 4, 5, 6, 7] rfl)
            · refine g_1 (fun w => lv_iload X.1 X.2.1 d_LB_steepestBlock_79 (lv_at hl 3 rfl) w) ?_
              refine g_s (fun kk => lv_istore_n (lv' := [(1, .int (iZ (i))), (9, .int (iZ (nB (bs i)))), (7, .long (lZ (nG (bs i)))), (6, .ref (A.getD i 0)), (5, .int (iZ (i))), (2, .long (lZ (g1))), (4, .int (iZ (n1))), (0, .ref x)]) X.1 X.2.1 d_LB_steepestBlock_81 rfl hl (by decide) rfl kk) (fun ls hl => ?_)
              refine g_1 (fun w => lv_lload X.1 X.2.1 d_LB_steepestBlock_82 (lv_at hl 2 rfl) w) ?_
              refine g_s (fun kk => lv_lstore_n (lv' := [(2, .long (lZ (nG (bs i)))), (1, .int (iZ (i))), (9, .int (iZ (nB (bs i)))), (7, .long (lZ (nG (bs i)))), (6, .ref (A.getD i 0)), (5, .int (iZ (i))), (4, .int (iZ (n1))), (0, .ref x)]) X.1 X.2.1 d_LB_steepestBlock_84 rfl hl (by decide) rfl kk) (fun ls hl => ?_)
              refine g_1 (fun w => lv_iload X.1 X.2.1 d_LB_steepestBlock_85 (lv_at hl 2 rfl) w) ?_
              refine g_s (fun kk => lv_istore (lv' := [(4, .int (iZ (nB (bs i)))), (2, .long (lZ (nG (bs i)))), (1, .int (iZ (i))), (9, .int (iZ (nB (bs i)))), (7, .long (lZ (nG (bs i)))), (6, .ref (A.getD i 0)), (5, .int (iZ (i))), (0, .ref x)]) X.1 X.2.1 d_LB_steepestBlock_87 hl (by decide) rfl kk) (fun ls hl => ?_)
              refine g_s (fun kk => lv_iinc (v := iZ (i + 1)) (lv' := [(5, .int (iZ (i + 1))), (4, .int (iZ (nB (bs i)))), (2, .long (lZ (nG (bs i)))), (1, .int (iZ (i))), (9, .int (iZ (nB (bs i)))), (7, .long (lZ (nG (bs i)))), (6, .ref (A.getD i 0)), (0, .ref x)]) X.1 X.2.1 d_LB_steepestBlock_89 hl (k := 6) rfl (iZ_add _ _) (by decide) rfl kk) (fun ls hl => ?_)
              refine g_goto (tgt := 10) X d_LB_steepestBlock_92 (by decide) ?_
              have e9 : stp bs (i + 1) = i + 1 := stp_t c41 (by first | exact Or.inl (by omega) | exact Or.inr (by
                have z := cmpZ_gt.mp c76
                have y := eg (by omega)
                rw [er, ← y.1, ← y.2]
                exact z))
              have hl := lv_sub hl [0, 3, 2, 1, 7] rfl
              have hl : lv_has ls 10 [(5, .int (iZ ((i + 1 : Nat) : Int))), (1, .int (iZ (((i + 1 : Nat) : Int) - 1))), (2, .long (lZ (nG (bs i)))), (4, .int (iZ (nB (bs i)))), (0, .ref x)] := by rw [show (((i + 1 : Nat) : Int) - 1) = i by omega]; exact hl
              exact ih (i + 1) (i + 1) (nG (bs i)) (nB (bs i)) ls (by omega) e9 (fun _ => ⟨rfl, rfl⟩) ⟨by omega, by omega, by omega, by omega⟩ hl
        · have c41 : ¬ hN (bs i) := if_0 c41
          refine g_goto (tgt := 89) X d_LB_steepestBlock_44 (by decide) ?_
          refine g_s (fun kk => lv_iinc (v := iZ (i + 1)) (lv' := [(5, .int (iZ (i + 1))), (6, .ref (A.getD i 0)), (1, .int (iZ ((r : Int) - 1))), (2, .long (lZ (g1))), (4, .int (iZ (n1))), (0, .ref x)]) X.1 X.2.1 d_LB_steepestBlock_89 hl (k := 1) rfl (iZ_add _ _) (by decide) rfl kk) (fun ls hl => ?_)
          refine g_goto (tgt := 10) X d_LB_steepestBlock_92 (by decide) ?_
          have e9 : stp bs (i + 1) = r := (stp_f (fun w => by first | exact absurd w.1 c41 | (rcases w.2 with w2 | w2; omega; have y := eg (by omega); rw [er, ← y.1, ← y.2] at w2; have z := cmpZ_gt.mpr w2; omega))).trans er
          exact ih (i + 1) r g1 n1 ls (by omega) e9 eg hgb (lv_sub hl [0, 2, 3, 4, 5] rfl)
  refine g_1 (fun w => lv_iconst (v := iZ (-1)) X.1 X.2.1 d_LB_steepestBlock_0 rfl w) ?_
  refine g_s (fun kk => lv_istore_n (lv' := [(1, .int (iZ ((-1)))), (0, .ref x)]) X.1 X.2.1 d_LB_steepestBlock_1 rfl hl (by decide) rfl kk) (fun ls hl => ?_)
  refine g_1 (fun w => lv_lconst (v := lZ 0) X.1 X.2.1 d_LB_steepestBlock_2 (by decide) w) ?_
  refine g_s (fun kk => lv_lstore_n (lv' := [(2, .long (lZ (0))), (1, .int (iZ ((-1)))), (0, .ref x)]) X.1 X.2.1 d_LB_steepestBlock_3 rfl hl (by decide) rfl kk) (fun ls hl => ?_)
  refine g_1 (fun w => lv_iconst (v := iZ 0) X.1 X.2.1 d_LB_steepestBlock_4 rfl w) ?_
  refine g_s (fun kk => lv_istore (lv' := [(4, .int (iZ (0))), (2, .long (lZ (0))), (1, .int (iZ ((-1)))), (0, .ref x)]) X.1 X.2.1 d_LB_steepestBlock_5 hl (by decide) rfl kk) (fun ls hl => ?_)
  refine g_1 (fun w => lv_iconst (v := iZ 0) X.1 X.2.1 d_LB_steepestBlock_7 rfl w) ?_
  refine g_s (fun kk => lv_istore (lv' := [(5, .int (iZ (0))), (4, .int (iZ (0))), (2, .long (lZ (0))), (1, .int (iZ ((-1)))), (0, .ref x)]) X.1 X.2.1 d_LB_steepestBlock_8 hl (by decide) rfl kk) (fun ls hl => ?_)
  exact loop A.length 0 0 0 0 ls (by omega) rfl (fun z => absurd rfl z) ⟨by decide, by decide, by decide, by decide⟩ (lv_sub hl [0, 3, 2, 1, 4] rfl)
