set_option maxHeartbeats 4000000 in
set_option maxRecDepth 100000 in
theorem c_LB_takeSteepestSteps {D : va_G} {s0 : State} {l : Launch} {h : gH} (B0 : gB D s0) {x : Nat} {A Y : List Nat} {bs : Nat → Blk} {ys : Nat → Lay} {pn tb : Int} (hx : isLB D h x A bs Y ys pn tb) (hAl : A.length ≤ 1024) (hYl : Y.length ≤ 64) (hwf : ∀ i, i < A.length → wfB (bs i)) {mk : Nat} {y : Lay} (hm : isLy D h mk y) (hmY : mk ∉ Y) {N : Nat} (hpn : pn = N) (hNl : N ≤ 16384) (htb : tb = totB bs A.length) {bud : Int} (hbu : i_ok bud) {QQ : Tkg} (hQQ : QQ = tss A.length bud N (bs, tb, y.2.2.2.1, y.2.2.2.2)) : gMet D s0 l y_LB_takeSteepestSteps b_LB_takeSteepestSteps 9 none ({ frames := 4, cells := 0, slots := 0, locals := 97 } : Room) [.ref x, .int (iZ (bud)), .ref mk] h (fun v h' => none = v ∧ isLB D h' x A (QQ).1 Y ys pn (QQ).2.1 ∧ isLy D h' mk (y.1, y.2.1, y.2.2.1, (QQ).2.2.1, (QQ).2.2.2) ∧ kp P_LB h h') := by
  obtain ⟨bl, yl, fX, hA, hY, hbs, hys, hnd, hnd2⟩ := id hx
  obtain ⟨eb, mb, fbl, -⟩ := id hA
  obtain ⟨ey, my, fyl, -⟩ := id hY
  obtain ⟨hbu1, hbu2⟩ := id hbu
  subst hpn
  refine g_enter B0 (plainFor_of_name (by decide)) (Nat.le_of_ble_eq_true rfl) (fun p e s m below meth c ls X hnm hl => ?_)
  have hl : lv_has ls 9 [(0, .ref x), (1, .int (iZ (bud))), (2, .ref mk)] := hl
  have loop : ∀ (d r : Nat) (hh : gH) (q : Tkg) (ls : Array Slot), r + d = N → (∀ i, i < A.length → wfB (q.1 i)) → q.2.1 = totB q.1 A.length → isLB D hh x A q.1 Y ys (N : Int) q.2.1 → isLy D hh mk (y.1, y.2.1, y.2.2.1, q.2.2.1, q.2.2.2) → kp P_LB h hh → tss A.length bud d q = QQ → lv_has ls 9 [(3, .int (iZ (r))), (2, .ref mk), (1, .int (iZ (bud))), (0, .ref x)] → G D s0 p l e ({ frames := 4, cells := 0, slots := 0, locals := 97 } : Room) s m ([.ref x, .int (iZ (bud)), .ref mk] : List Value).toArray below meth c hh 0 0 (MQ below (gQ D s0 (fun v h' => none = v ∧ isLB D h' x A (QQ).1 Y ys (N : Int) (QQ).2.1 ∧ isLy D h' mk (y.1, y.2.1, y.2.2.1, (QQ).2.2.1, (QQ).2.2.2) ∧ kp P_LB h h')) ([.ref x, .int (iZ (bud)), .ref mk] : List Value).toArray s 0 0 (fun q => s0.heap.size ≤ q)) (F0 m 2 ls []) := by
    intro d
    induction d with
    | zero =>
      intro r hh q ls hi hwq htq hx2 hm2 hkk hQ hl
      obtain ⟨bl, yl, fX, hA, hY, hbs, hys, hnd, hnd2⟩ := id hx2
      obtain ⟨eb, mb, fbl, -⟩ := id hA
      obtain ⟨ey, my, fyl, -⟩ := id hY
      obtain ⟨q1, fm, fq⟩ := id hm2
      have hQ : q = QQ := hQ
      refine g_1 (fun w => lv_iload_n X.1 X.2.1 d_LB_takeSteepestSteps_2 rfl (lv_at hl 0 rfl) w) ?_
      refine g_1 (fun w => lv_aload_n X.1 X.2.1 d_LB_takeSteepestSteps_3 rfl (lv_at hl 3 rfl) w) ?_
      refine g_get X (ci := 0) rfl fX 2 (by decide) ⟨rfl, rfl⟩ tw_57 (Or.inl rfl) rfl d_LB_takeSteepestSteps_4 ?_
      refine g_icmp_ge (tgt := 116) X (by first | (split <;> exact ⟨by omega, by omega⟩) | exact ⟨by omega, by omega⟩ | exact cmpZ_ok _ _) (by first | (split <;> exact ⟨by omega, by omega⟩) | exact ⟨by omega, by omega⟩ | exact cmpZ_ok _ _) d_LB_takeSteepestSteps_7 (by decide) (fun c7 => ?_) (fun c7 => ?_)
      · exact g_vret X (⟨rfl, by rw [← hQ]; exact hx2, by rw [← hQ]; exact hm2, hkk⟩) (by decide) (by decide) d_LB_takeSteepestSteps_116
      · exfalso
        omega
    | succ d ih =>
      intro r hh q ls hi hwq htq hx2 hm2 hkk hQ hl
      obtain ⟨bl, yl, fX, hA, hY, hbs, hys, hnd, hnd2⟩ := id hx2
      obtain ⟨eb, mb, fbl, -⟩ := id hA
      obtain ⟨ey, my, fyl, -⟩ := id hY
      obtain ⟨q1, fm, fq⟩ := id hm2
      have hsl0 := stp_le q.1 A.length
      refine g_1 (fun w => lv_iload_n X.1 X.2.1 d_LB_takeSteepestSteps_2 rfl (lv_at hl 0 rfl) w) ?_
      refine g_1 (fun w => lv_aload_n X.1 X.2.1 d_LB_takeSteepestSteps_3 rfl (lv_at hl 3 rfl) w) ?_
      refine g_get X (ci := 0) rfl fX 2 (by decide) ⟨rfl, rfl⟩ tw_57 (Or.inl rfl) rfl d_LB_takeSteepestSteps_4 ?_
      refine g_icmp_ge (tgt := 116) X (by first | (split <;> exact ⟨by omega, by omega⟩) | exact ⟨by omega, by omega⟩ | exact cmpZ_ok _ _) (by first | (split <;> exact ⟨by omega, by omega⟩) | exact ⟨by omega, by omega⟩ | exact cmpZ_ok _ _) d_LB_takeSteepestSteps_7 (by decide) (fun c7 => ?_) (fun c7 => ?_)
      · exfalso
        omega
      · refine g_1 (fun w => lv_aload_n X.1 X.2.1 d_LB_takeSteepestSteps_10 rfl (lv_at hl 3 rfl) w) ?_
        refine g_callV (na := 0) X (c_LB_steepestBlock B0 hx2 hAl hYl hwq) rfl fX rfl ⟨⟨tw_431, tw_1⟩, ⟨by decide, by decide, by decide +kernel⟩, by decide, by decide⟩ tw_428 tw_430 ts_LB_steepestBlock rfl hl.1 (Nat.le_of_ble_eq_true rfl) ⟨by decide, by decide⟩ d_LB_takeSteepestSteps_11 (fun v h' hp => ?_)
        obtain ⟨rfl, rfl⟩ := hp
        refine g_widen (k' := 0) (n' := 0) (by decide) (by decide) ?_
        show G D s0 p l e _ s m _ below meth c hh _ _ _ (F0 m 14 ls [.int (iZ ((stp q.1 A.length : Int) - 1))])
        refine g_s (fun kk => lv_istore (lv' := [(4, .int (iZ ((stp q.1 A.length : Int) - 1))), (3, .int (iZ (r))), (2, .ref mk), (1, .int (iZ (bud))), (0, .ref x)]) X.1 X.2.1 d_LB_takeSteepestSteps_14 hl (by decide) rfl kk) (fun ls hl => ?_)
        refine g_1 (fun w => lv_iload X.1 X.2.1 d_LB_takeSteepestSteps_16 (lv_at hl 0 rfl) w) ?_
        refine g_1 (fun w => lv_iconst (v := iZ (-1)) X.1 X.2.1 d_LB_takeSteepestSteps_18 rfl w) ?_
        refine g_icmp_ne (tgt := 23) X (by first | (split <;> exact ⟨by omega, by omega⟩) | exact ⟨by omega, by omega⟩ | exact cmpZ_ok _ _) (by first | (split <;> exact ⟨by omega, by omega⟩) | exact ⟨by omega, by omega⟩ | exact cmpZ_ok _ _) d_LB_takeSteepestSteps_19 (by decide) (fun c19 => ?_) (fun c19 => ?_)
        · obtain ⟨si, hsi⟩ : ∃ si, stp q.1 A.length = si + 1 := ⟨stp q.1 A.length - 1, by omega⟩
          have hsl : si < A.length := by omega
          have hl : lv_has ls 9 [(4, .int (iZ (si))), (3, .int (iZ (r))), (2, .ref mk), (1, .int (iZ (bud))), (0, .ref x)] := by rw [show ((si : Nat) : Int) = (stp q.1 A.length : Int) - 1 by omega]; exact hl
          have hk1 := hbs si hsl
          have hw1 := hwq si hsl
          have ht := hw1.1.2.2.1
          have hs := hw1.1.2.1
          have hp0 := hw1.1.1
          obtain ⟨p1, p2, p3, fb, -⟩ := id hk1
          have hhn : hN (q.1 si) := by have z := stp_has q.1 A.length (by omega); rw [hsi] at z; exact z
          have wb := nB_bd hw1
          have w0 := wb.1 hhn
          have hcb := cst_bd (sg := nG (q.1 si)) (sb := nB (q.1 si)) hwq
          have htt := totB_bd hwq
          refine g_1 (fun w => lv_aload_n X.1 X.2.1 d_LB_takeSteepestSteps_23 rfl (lv_at hl 4 rfl) w) ?_
          refine g_get X (ci := 0) rfl fX 0 (by decide) ⟨rfl, rfl⟩ tw_55 (Or.inl rfl) rfl d_LB_takeSteepestSteps_24 ?_
          refine g_1 (fun w => lv_iload X.1 X.2.1 d_LB_takeSteepestSteps_27 (lv_at hl 0 rfl) w) ?_
          refine g_callV (na := 1) X (c_AL_get B0 hA si (by omega)) rfl fbl rfl ⟨⟨tw_91, tw_4⟩, ⟨by decide, by decide, by decide +kernel⟩, by decide, by decide⟩ tw_88 tw_89 tw_90 rfl hl.1 (Nat.le_of_ble_eq_true rfl) ⟨by decide, by decide⟩ d_LB_takeSteepestSteps_29 (fun v h' hp => ?_)
          obtain ⟨rfl, rfl⟩ := hp
          refine g_widen (k' := 0) (n' := 0) (by decide) (by decide) ?_
          show G D s0 p l e _ s m _ below meth c hh _ _ _ (F0 m 32 ls [.ref (A.getD si 0)])
          refine g_cast X fb rfl tw_102 tw_652 d_LB_takeSteepestSteps_32 ?_
          refine g_callVN (na := 0) X (c_BK_nextGain B0 hk1 hw1.1 (by omega)) rfl fb rfl ⟨⟨tw_439, tw_12⟩, ⟨by decide, by decide, by decide +kernel⟩, by decide, by decide⟩ tw_436 tw_438 ts_BK_nextGain rfl hl.1 (Nat.le_of_ble_eq_true rfl) ⟨by decide, by decide⟩ d_LB_takeSteepestSteps_35 (fun v h' hp => ?_)
          obtain ⟨rfl, rfl⟩ := hp
          refine g_widen (k' := 0) (n' := 0) (by decide) (by decide) ?_
          show G D s0 p l e _ s m _ below meth c hh _ _ _ (F0 m 38 ls [.long (lZ (nG (q.1 si)))])
          refine g_s (fun kk => lv_lstore (lv' := [(5, .long (lZ (nG (q.1 si)))), (4, .int (iZ (si))), (3, .int (iZ (r))), (2, .ref mk), (1, .int (iZ (bud))), (0, .ref x)]) X.1 X.2.1 d_LB_takeSteepestSteps_38 hl (by decide) rfl kk) (fun ls hl => ?_)
          refine g_1 (fun w => lv_aload_n X.1 X.2.1 d_LB_takeSteepestSteps_40 rfl (lv_at hl 5 rfl) w) ?_
          refine g_get X (ci := 0) rfl fX 0 (by decide) ⟨rfl, rfl⟩ tw_55 (Or.inl rfl) rfl d_LB_takeSteepestSteps_41 ?_
          refine g_1 (fun w => lv_iload X.1 X.2.1 d_LB_takeSteepestSteps_44 (lv_at hl 1 rfl) w) ?_
          refine g_callV (na := 1) X (c_AL_get B0 hA si (by omega)) rfl fbl rfl ⟨⟨tw_91, tw_4⟩, ⟨by decide, by decide, by decide +kernel⟩, by decide, by decide⟩ tw_88 tw_89 tw_90 rfl hl.1 (Nat.le_of_ble_eq_true rfl) ⟨by decide, by decide⟩ d_LB_takeSteepestSteps_46 (fun v h' hp => ?_)
          obtain ⟨rfl, rfl⟩ := hp
          refine g_widen (k' := 0) (n' := 0) (by decide) (by decide) ?_
          show G D s0 p l e _ s m _ below meth c hh _ _ _ (F0 m 49 ls [.ref (A.getD si 0)])
          refine g_cast X fb rfl tw_102 tw_652 d_LB_takeSteepestSteps_49 ?_
          refine g_callVN (na := 0) X (c_BK_nextBytes B0 hk1 hw1.1 (by omega)) rfl fb rfl ⟨⟨tw_443, tw_12⟩, ⟨by decide, by decide, by decide +kernel⟩, by decide, by decide⟩ tw_440 tw_442 ts_BK_nextBytes rfl hl.1 (Nat.le_of_ble_eq_true rfl) ⟨by decide, by decide⟩ d_LB_takeSteepestSteps_52 (fun v h' hp => ?_)
          obtain ⟨rfl, rfl⟩ := hp
          refine g_widen (k' := 0) (n' := 0) (by decide) (by decide) ?_
          show G D s0 p l e _ s m _ below meth c hh _ _ _ (F0 m 55 ls [.int (iZ (nB (q.1 si)))])
          refine g_s (fun kk => lv_istore (lv' := [(7, .int (iZ (nB (q.1 si)))), (5, .long (lZ (nG (q.1 si)))), (4, .int (iZ (si))), (3, .int (iZ (r))), (2, .ref mk), (1, .int (iZ (bud))), (0, .ref x)]) X.1 X.2.1 d_LB_takeSteepestSteps_55 hl (by decide) rfl kk) (fun ls hl => ?_)
          refine g_1 (fun w => lv_aload_n X.1 X.2.1 d_LB_takeSteepestSteps_57 rfl (lv_at hl 6 rfl) w) ?_
          refine g_1 (fun w => lv_lload X.1 X.2.1 d_LB_takeSteepestSteps_58 (lv_at hl 1 rfl) w) ?_
          refine g_1 (fun w => lv_iload X.1 X.2.1 d_LB_takeSteepestSteps_60 (lv_at hl 0 rfl) w) ?_
          refine g_callV (na := 2) X (c_LB_bytesOfSlope B0 hx2 hAl hYl hwq wb.2.2.1 wb.2.2.2 w0 wb.2.1) rfl fX rfl ⟨⟨tw_448, tw_1⟩, ⟨by decide, by decide, by decide +kernel⟩, by decide, by decide⟩ tw_445 tw_447 ts_LB_bytesOfSlope rfl hl.1 (Nat.le_of_ble_eq_true rfl) ⟨by decide, by decide⟩ d_LB_takeSteepestSteps_62 (fun v h' hp => ?_)
          obtain ⟨rfl, rfl⟩ := hp
          refine g_widen (k' := 0) (n' := 0) (by decide) (by decide) ?_
          show G D s0 p l e _ s m _ below meth c hh _ _ _ (F0 m 65 ls [.int (iZ (cst q.1 (nG (q.1 si)) (nB (q.1 si)) A.length))])
          refine g_s (fun kk => lv_istore (lv' := [(8, .int (iZ (cst q.1 (nG (q.1 si)) (nB (q.1 si)) A.length))), (7, .int (iZ (nB (q.1 si)))), (5, .long (lZ (nG (q.1 si)))), (4, .int (iZ (si))), (3, .int (iZ (r))), (2, .ref mk), (1, .int (iZ (bud))), (0, .ref x)]) X.1 X.2.1 d_LB_takeSteepestSteps_65 hl (by decide) rfl kk) (fun ls hl => ?_)
          refine g_1 (fun w => lv_aload_n X.1 X.2.1 d_LB_takeSteepestSteps_67 rfl (lv_at hl 7 rfl) w) ?_
          refine g_get X (ci := 0) rfl fX 3 (by decide) ⟨rfl, rfl⟩ tw_58 (Or.inl rfl) rfl d_LB_takeSteepestSteps_68 ?_
          refine g_1 (fun w => lv_iload X.1 X.2.1 d_LB_takeSteepestSteps_71 (lv_at hl 0 rfl) w) ?_
          refine g_iadd X d_LB_takeSteepestSteps_73 ?_
          refine g_1 (fun w => lv_iload_n X.1 X.2.1 d_LB_takeSteepestSteps_74 rfl (lv_at hl 6 rfl) w) ?_
          refine g_icmp_le (tgt := 79) X (by first | (split <;> exact ⟨by omega, by omega⟩) | exact ⟨by omega, by omega⟩ | exact cmpZ_ok _ _) (by first | (split <;> exact ⟨by omega, by omega⟩) | exact ⟨by omega, by omega⟩ | exact cmpZ_ok _ _) d_LB_takeSteepestSteps_75 (by decide) (fun c75 => ?_) (fun c75 => ?_)
          · refine g_1 (fun w => lv_aload_n X.1 X.2.1 d_LB_takeSteepestSteps_79 rfl (lv_at hl 7 rfl) w) ?_
            refine g_1 (fun w => lv_lload X.1 X.2.1 d_LB_takeSteepestSteps_80 (lv_at hl 2 rfl) w) ?_
            refine g_1 (fun w => lv_iload X.1 X.2.1 d_LB_takeSteepestSteps_82 (lv_at hl 1 rfl) w) ?_
            refine g_callV (na := 2) X (c_LB_takeSlope B0 hx2 hAl hYl hwq wb.2.2.1 wb.2.2.2 w0 wb.2.1) rfl fX rfl ⟨⟨tw_459, tw_1⟩, ⟨by decide, by decide, by decide +kernel⟩, by decide, by decide⟩ tw_456 tw_458 ts_LB_takeSlope rfl hl.1 (Nat.le_of_ble_eq_true rfl) ⟨by decide, by decide⟩ d_LB_takeSteepestSteps_84 (fun v h' hp => ?_)
            obtain ⟨rfl, hx3, hk2⟩ := hp
            have hk3 : kp P_LB h h' := kp_tr hkk (XB_LB (BB_XB hk2))
            have hm3 : isLy D h' mk (y.1, y.2.1, y.2.2.1, q.2.2.1, q.2.2.2) := hm2.kp hk2 (fun z => by rcases z with z | z; exact absurd z (show ¬ (2 : Nat) = 1 by decide); exact absurd z.1 (show ¬ (11 : Nat) ≤ 2 by decide)) (fun _ z => by rcases z with z | z; exact absurd z (show ¬ (15 : Nat) = 1 by decide); exact absurd z.2 (show ¬ (15 : Nat) ≤ 13 by decide))
            obtain ⟨bl, yl, fX, hA, hY, hbs, hys, hnd, hnd2⟩ := id hx3
            obtain ⟨eb, mb, fbl, -⟩ := id hA
            obtain ⟨ey, my, fyl, -⟩ := id hY
            obtain ⟨q1, fm, fq⟩ := id hm3
            refine g_widen (k' := 0) (n' := 0) (by decide) (by decide) ?_
            show G D s0 p l e _ s m _ below meth c h' _ _ _ (F0 m 87 ls [])
            refine g_1 (fun w => lv_aload_n X.1 X.2.1 d_LB_takeSteepestSteps_87 rfl (lv_at hl 7 rfl) w) ?_
            refine g_1 (fun w => lv_dup X.1 X.2.1 d_LB_takeSteepestSteps_88 rfl w) ?_
            refine g_get X (ci := 0) rfl fX 3 (by decide) ⟨rfl, rfl⟩ tw_58 (Or.inl rfl) rfl d_LB_takeSteepestSteps_89 ?_
            refine g_1 (fun w => lv_iload X.1 X.2.1 d_LB_takeSteepestSteps_92 (lv_at hl 0 rfl) w) ?_
            refine g_iadd X d_LB_takeSteepestSteps_94 ?_
            refine g_put X (ci := 0) rfl fX (Nat.succ_ne_zero _) 3 (by decide) ⟨rfl, rfl⟩ tw_58 (Or.inl rfl) rfl rfl rfl (Nat.le_of_ble_eq_true rfl) d_LB_takeSteepestSteps_95 ?_
            obtain ⟨h_1, eh_1⟩ : ∃ z_, z_ = g_up h' x ((3, 0), .inr (0, [.ref bl, .ref yl, .int (iZ ((N : Int))), .int (iZ (q.2.1 + (cst q.1 (nG (q.1 si)) (nB (q.1 si)) A.length)))])) := ⟨_, rfl⟩
            refine g_h (h' := h_1) eh_1.symm ?_
            have f_2 : h_1 x = some ((3, 0), .inr (0, [.ref bl, .ref yl, .int (iZ ((N : Int))), .int (iZ (q.2.1 + (cst q.1 (nG (q.1 si)) (nB (q.1 si)) A.length)))])) := by rw [eh_1]; exact g_us
            have f_3 : h_1 bl = some ((5, 0), .inr (3, [.ref eb, .int (iZ (A.length)), .int (iZ (mb))])) := by rw [eh_1]; exact g_uk fbl fX (show (5 : Nat) ≠ 3 by decide)
            have f_4 : h_1 yl = some ((5, 1), .inr (3, [.ref ey, .int (iZ (Y.length)), .int (iZ (my))])) := by rw [eh_1]; exact g_uk fyl fX (show (5 : Nat) ≠ 3 by decide)
            have f_5 : h_1 mk = some ((2, 0), .inr (2, [.ref q1, .int (iZ (y.2.2.1)), .long (lZ (q.2.2.1)), .int (iZ (q.2.2.2))])) := by rw [eh_1]; exact g_uk fm fX (show (2 : Nat) ≠ 3 by decide)
            have f_6 : h_1 q1 = some ((15, mk), gI D y.1 (y.2.1)) := by rw [eh_1]; exact g_uk fq fX (show (15 : Nat) ≠ 3 by decide)
            have hk_7 := kp_up (hk3) eh_1 fX (⟨Nat.le_of_ble_eq_true rfl, Nat.le_of_ble_eq_true rfl⟩)
            have hx4 := hx3.setX fX eh_1
            have hkx := hk_7
            refine g_1 (fun w => lv_aload_n X.1 X.2.1 d_LB_takeSteepestSteps_98 rfl (lv_at hl 5 rfl) w) ?_
            refine g_1 (fun w => lv_lload X.1 X.2.1 d_LB_takeSteepestSteps_99 (lv_at hl 2 rfl) w) ?_
            refine g_putN X (ci := 2) rfl f_5 (Nat.succ_ne_zero _) 2 (by decide) ⟨rfl, rfl⟩ tw_400 rfl rfl rfl (Nat.le_of_ble_eq_true rfl) d_LB_takeSteepestSteps_101 ?_
            obtain ⟨h_8, eh_8⟩ : ∃ z_, z_ = g_up h_1 mk ((2, 0), .inr (2, [.ref q1, .int (iZ (y.2.2.1)), .long (lZ (nG (q.1 si))), .int (iZ (q.2.2.2))])) := ⟨_, rfl⟩
            refine g_h (h' := h_8) eh_8.symm ?_
            have f_9 : h_8 x = some ((3, 0), .inr (0, [.ref bl, .ref yl, .int (iZ ((N : Int))), .int (iZ (q.2.1 + (cst q.1 (nG (q.1 si)) (nB (q.1 si)) A.length)))])) := by rw [eh_8]; exact g_uk f_2 f_5 (show (3 : Nat) ≠ 2 by decide)
            have f_10 : h_8 bl = some ((5, 0), .inr (3, [.ref eb, .int (iZ (A.length)), .int (iZ (mb))])) := by rw [eh_8]; exact g_uk f_3 f_5 (show (5 : Nat) ≠ 2 by decide)
            have f_11 : h_8 yl = some ((5, 1), .inr (3, [.ref ey, .int (iZ (Y.length)), .int (iZ (my))])) := by rw [eh_8]; exact g_uk f_4 f_5 (show (5 : Nat) ≠ 2 by decide)
            have f_12 : h_8 mk = some ((2, 0), .inr (2, [.ref q1, .int (iZ (y.2.2.1)), .long (lZ (nG (q.1 si))), .int (iZ (q.2.2.2))])) := by rw [eh_8]; exact g_us
            have f_13 : h_8 q1 = some ((15, mk), gI D y.1 (y.2.1)) := by rw [eh_8]; exact g_uk f_6 f_5 (show (15 : Nat) ≠ 2 by decide)
            have hk_14 := kp_up (hk_7) eh_8 f_5 (⟨Nat.le_of_ble_eq_true rfl, Nat.le_of_ble_eq_true rfl⟩)
            refine g_1 (fun w => lv_aload_n X.1 X.2.1 d_LB_takeSteepestSteps_104 rfl (lv_at hl 5 rfl) w) ?_
            refine g_1 (fun w => lv_iload X.1 X.2.1 d_LB_takeSteepestSteps_105 (lv_at hl 1 rfl) w) ?_
            refine g_putN X (ci := 2) rfl f_12 (Nat.succ_ne_zero _) 3 (by decide) ⟨rfl, rfl⟩ tw_402 rfl rfl rfl (Nat.le_of_ble_eq_true rfl) d_LB_takeSteepestSteps_107 ?_
            obtain ⟨h_15, eh_15⟩ : ∃ z_, z_ = g_up h_8 mk ((2, 0), .inr (2, [.ref q1, .int (iZ (y.2.2.1)), .long (lZ (nG (q.1 si))), .int (iZ (nB (q.1 si)))])) := ⟨_, rfl⟩
            refine g_h (h' := h_15) eh_15.symm ?_
            have f_16 : h_15 x = some ((3, 0), .inr (0, [.ref bl, .ref yl, .int (iZ ((N : Int))), .int (iZ (q.2.1 + (cst q.1 (nG (q.1 si)) (nB (q.1 si)) A.length)))])) := by rw [eh_15]; exact g_uk f_9 f_12 (show (3 : Nat) ≠ 2 by decide)
            have f_17 : h_15 bl = some ((5, 0), .inr (3, [.ref eb, .int (iZ (A.length)), .int (iZ (mb))])) := by rw [eh_15]; exact g_uk f_10 f_12 (show (5 : Nat) ≠ 2 by decide)
            have f_18 : h_15 yl = some ((5, 1), .inr (3, [.ref ey, .int (iZ (Y.length)), .int (iZ (my))])) := by rw [eh_15]; exact g_uk f_11 f_12 (show (5 : Nat) ≠ 2 by decide)
            have f_19 : h_15 mk = some ((2, 0), .inr (2, [.ref q1, .int (iZ (y.2.2.1)), .long (lZ (nG (q.1 si))), .int (iZ (nB (q.1 si)))])) := by rw [eh_15]; exact g_us
            have f_20 : h_15 q1 = some ((15, mk), gI D y.1 (y.2.1)) := by rw [eh_15]; exact g_uk f_13 f_12 (show (15 : Nat) ≠ 2 by decide)
            have hk_21 := kp_up (hk_14) eh_15 f_12 (⟨Nat.le_of_ble_eq_true rfl, Nat.le_of_ble_eq_true rfl⟩)
            refine g_s (fun kk => lv_iinc (v := iZ (r + 1)) (lv' := [(3, .int (iZ (r + 1))), (8, .int (iZ (cst q.1 (nG (q.1 si)) (nB (q.1 si)) A.length))), (7, .int (iZ (nB (q.1 si)))), (5, .long (lZ (nG (q.1 si)))), (4, .int (iZ (si))), (2, .ref mk), (1, .int (iZ (bud))), (0, .ref x)]) X.1 X.2.1 d_LB_takeSteepestSteps_110 hl (k := 4) rfl (iZ_add _ _) (by decide) rfl kk) (fun ls hl => ?_)
            refine g_goto (tgt := 2) X d_LB_takeSteepestSteps_113 (by decide) ?_
            obtain ⟨bl4, yl4, hx4b⟩ := id hx4
            have hmA := LY_neA hx4b f_5
            have hx5 : LBb D h_15 x bl4 yl4 A _ Y ys _ _ := LBb_out hx4b f_5 hmA hmY (Or.inr rfl) (kp_up (kp_up kp_rf eh_8 f_5 (Or.inl rfl)) eh_15 f_12 (Or.inl rfl))
            exact ih (r + 1) h_15 (fun j => tkS (nG (q.1 si)) (nB (q.1 si)) (q.1 j), q.2.1 + cst q.1 (nG (q.1 si)) (nB (q.1 si)) A.length, nG (q.1 si), nB (q.1 si)) ls (by omega) (fun i hi => wfB_tkS (hwq i hi)) (by show q.2.1 + _ = totB (fun j => tkS (nG (q.1 si)) (nB (q.1 si)) (q.1 j)) A.length; rw [totB_tkS hwq, htq]) ⟨bl4, yl4, hx5⟩ ⟨q1, f_19, f_20⟩ hk_21 ((tss_s hsi (by omega)).symm.trans hQ) (lv_sub hl [0, 5, 6, 7] rfl)
          · have hQe := (tss_b (k := d) (bud := bud) hsi (by omega)).symm.trans hQ
            exact g_vret X (⟨rfl, by rw [← hQe]; exact hx2, by rw [← hQe]; exact hm2, hkk⟩) (by decide) (by decide) d_LB_takeSteepestSteps_78
        · have hQe := (tss_0 (k := d) (bud := bud) (show stp q.1 A.length = 0 by omega)).symm.trans hQ
          exact g_vret X (⟨rfl, by rw [← hQe]; exact hx2, by rw [← hQe]; exact hm2, hkk⟩) (by decide) (by decide) d_LB_takeSteepestSteps_22
  refine g_1 (fun w => lv_iconst (v := iZ 0) X.1 X.2.1 d_LB_takeSteepestSteps_0 rfl w) ?_
  refine g_s (fun kk => lv_istore_n (lv' := [(3, .int (iZ (0))), (0, .ref x), (1, .int (iZ (bud))), (2, .ref mk)]) X.1 X.2.1 d_LB_takeSteepestSteps_1 rfl hl (by decide) rfl kk) (fun ls hl => ?_)
  exact loop N 0 h (bs, tb, y.2.2.2.1, y.2.2.2.2) ls (by omega) hwf htb hx hm kp_rf hQQ.symm (lv_sub hl [0, 3, 2, 1] rfl)

theorem tss_wf {n : Nat} {bud : Int} : ∀ {k : Nat} {q : Tkg}, (∀ i, i < n → wfB (q.1 i)) → ∀ i, i < n → wfB ((tss n bud k q).1 i)
  | 0, _, h => h
  | k + 1, q, h => by
    unfold tss
    split
    · exact h
    · split
      · exact h
      · exact tss_wf (fun i hi => wfB_tkS (h i hi))

set_option maxHeartbeats 4000000 in
set_option maxRecDepth 100000 in
theorem c_LB_layer {D : va_G} {s0 : State} {l : Launch} {h : gH} (B0 : gB D s0) (hfl : l.flags = flags0) {x : Nat} {A Y : List Nat} {bs : Nat → Blk} {ys : Nat → Lay} {pn tb : Int} (hx : isLB D h x A bs Y ys pn tb) (hAl : A.length ≤ 1024) (hYl : Y.length ≤ 64) (hwf : ∀ i, i < A.length → wfB (bs i)) {N : Nat} (hpn : pn = N) (hNl : N ≤ 16384) (htb : tb = totB bs A.length) {bud : Int} (hbu : i_ok bud) {QQ : Tkg} (hQQ : QQ = layQ A.length N bud bs tb) : gMetX D s0 l y_LB_layer b_LB_layer 3 (some .int) ({ frames := 7, cells := 3, slots := 2628, locals := 171 } : Room) [.ref x, .int (iZ (bud))] h (fun v h' => -1 ≤ bud ∧ Y.length < 64 ∧ some (.int (iZ QQ.2.1)) = v ∧ ∃ (b : Nat) (cf : Nat → Int), (∀ j, j < A.length → cf j = bL (QQ.1 j)) ∧ isLB D h' x A QQ.1 (Y ++ [b]) (va_up ys Y.length (A.length, cf, QQ.2.1, QQ.2.2.1, QQ.2.2.2)) pn QQ.2.1 ∧ kp P_LB h h') (fun C h' => ((C = "java/lang/IllegalArgumentException" ∧ bud < -1) ∨ (C = "java/lang/IllegalStateException" ∧ -1 ≤ bud ∧ ¬ Y.length < 64)) ∧ h = h') := by
  obtain ⟨bl, yl, fX, hA, hY, hbs, hys, hnd, hnd2⟩ := id hx
  obtain ⟨eb, mb, fbl, -⟩ := id hA
  obtain ⟨ey, my, fyl, -⟩ := id hY
  obtain ⟨hbu1, hbu2⟩ := id hbu
  subst hpn
  refine g_enterX B0 (plainFor_of_name (by decide)) (Nat.le_of_ble_eq_true rfl) (fun p e s m below meth c ls X hxt hnm hl => ?_)
  have hl : lv_has ls 3 [(0, .ref x), (1, .int (iZ (bud)))] := hl
  refine g_1 (fun w => lv_iload_n X.1 X.2.1 d_LB_layer_0 rfl (lv_at hl 1 rfl) w) ?_
  refine g_1 (fun w => lv_iconst (v := iZ (-1)) X.1 X.2.1 d_LB_layer_1 rfl w) ?_
  refine g_icmp_ge (tgt := 15) X (by first | (split <;> exact ⟨by omega, by omega⟩) | exact ⟨by omega, by omega⟩ | exact cmpZ_ok _ _) (by first | (split <;> exact ⟨by omega, by omega⟩) | exact ⟨by omega, by omega⟩ | exact cmpZ_ok _ _) d_LB_layer_2 (by decide) (fun c2 => ?_) (fun c2 => ?_)
  · refine g_1 (fun w => lv_aload_n X.1 X.2.1 d_LB_layer_15 rfl (lv_at hl 0 rfl) w) ?_
    refine g_get X (ci := 0) rfl fX 1 (by decide) ⟨rfl, rfl⟩ tw_56 (Or.inl rfl) rfl d_LB_layer_16 ?_
    refine g_callV (na := 0) X (c_AL_size B0 hY) rfl fyl rfl ⟨⟨tw_87, tw_4⟩, ⟨by decide, by decide, by decide +kernel⟩, by decide, by decide⟩ tw_84 tw_85 tw_86 rfl hl.1 (Nat.le_of_ble_eq_true rfl) ⟨by decide, by decide⟩ d_LB_layer_19 (fun v h' hp => ?_)
    obtain ⟨rfl, rfl⟩ := hp
    refine g_widen (k' := 0) (n' := 0) (by decide) (by decide) ?_
    show G D s0 p l e _ s m _ below meth c h _ _ _ (F0 m 22 ls [.int (iZ (Y.length))])
    refine g_1 (fun w => lv_bipush (v := iZ 64) X.1 X.2.1 d_LB_layer_22 (by decide) w) ?_
    refine g_icmp_lt (tgt := 37) X (by first | (split <;> exact ⟨by omega, by omega⟩) | exact ⟨by omega, by omega⟩ | exact cmpZ_ok _ _) (by first | (split <;> exact ⟨by omega, by omega⟩) | exact ⟨by omega, by omega⟩ | exact cmpZ_ok _ _) d_LB_layer_24 (by decide) (fun c24 => ?_) (fun c24 => ?_)
    · refine g_new X (ci := 2) rfl tw_389 tw_390 tw_20 (fs := [.null, .int (iZ (0)), .long (lZ (0)), .int (iZ (0))]) (fun j hj => by rcases (show j = 0 ∨ j = 1 ∨ j = 2 ∨ j = 3 by omega) with rfl | rfl | rfl | rfl <;> rfl) (fun z => (2, 0)) (by decide) (by decide) d_LB_layer_37 (fun na_1 hfna_1 => ?_)
      obtain ⟨h_2, eh_2⟩ : ∃ z_, z_ = g_up h na_1 ((2, 0), .inr (2, [.null, .int (iZ (0)), .long (lZ (0)), .int (iZ (0))])) := ⟨_, rfl⟩
      refine g_h (h' := h_2) eh_2.symm ?_
      have f_3 : h_2 x = some ((3, 0), .inr (0, [.ref bl, .ref yl, .int (iZ ((N : Int))), .int (iZ (tb))])) := by rw [eh_2]; exact g_uf fX hfna_1
      have f_4 : h_2 bl = some ((5, 0), .inr (3, [.ref eb, .int (iZ (A.length)), .int (iZ (mb))])) := by rw [eh_2]; exact g_uf fbl hfna_1
      have f_5 : h_2 yl = some ((5, 1), .inr (3, [.ref ey, .int (iZ (Y.length)), .int (iZ (my))])) := by rw [eh_2]; exact g_uf fyl hfna_1
      have f_6 : h_2 na_1 = some ((2, 0), .inr (2, [.null, .int (iZ (0)), .long (lZ (0)), .int (iZ (0))])) := by rw [eh_2]; exact g_us
      have hk_7 := kp_new (kp_rf (P := P_LB) (h := h)) eh_2 hfna_1
      have hxx : LBb D h x bl yl A bs Y ys (N : Int) tb := ⟨fX, hA, hY, hbs, hys, hnd, hnd2⟩
      have hfr := LBb_fr hxx hfna_1
      have hx2 : LBb D h_2 x bl yl A bs Y ys (N : Int) tb := LBb_kp (P := fun _ _ => False) hxx (kp_new kp_rf eh_2 hfna_1) (fun _ _ _ _ z => z)
      have hA := hx2.2.1
      refine g_1 (fun w => lv_dup X.1 X.2.1 d_LB_layer_40 rfl w) ?_
      refine g_1 (fun w => lv_aload_n X.1 X.2.1 d_LB_layer_41 rfl (lv_at hl 0 rfl) w) ?_
      refine g_get X (ci := 0) rfl f_3 0 (by decide) ⟨rfl, rfl⟩ tw_55 (Or.inl rfl) rfl d_LB_layer_42 ?_
      refine g_callV (na := 0) X (c_AL_size B0 hA) rfl f_4 rfl ⟨⟨tw_87, tw_4⟩, ⟨by decide, by decide, by decide +kernel⟩, by decide, by decide⟩ tw_84 tw_85 tw_86 rfl hl.1 (Nat.le_of_ble_eq_true rfl) ⟨by decide, by decide⟩ d_LB_layer_45 (fun v h' hp => ?_)
      obtain ⟨rfl, rfl⟩ := hp
      refine g_widen (k' := 0 + 1) (n' := 0 + 4) (by decide) (by decide) ?_
      show G D s0 p l e _ s m _ below meth c h_2 _ _ _ (F0 m 48 ls [.int (iZ (A.length)), .ref na_1, .ref na_1])
      refine g_callIN (na := 1) X (c_LY_init B0 hAl f_6) rfl rfl ⟨⟨tw_393, tw_20⟩, ⟨by decide, by decide, by decide +kernel⟩, by decide, by decide⟩ tw_391 tw_392 rfl hl.1 (Nat.le_of_ble_eq_true rfl) ⟨by decide, by decide⟩ d_LB_layer_48 (fun v h2 hp => ?_)
      obtain ⟨rfl, hm3, hk3⟩ := hp
      have hx3 := LBb_out hx2 f_6 hfr.1 hfr.2 (Or.inr rfl) (kp_mo hk3 (fun q t z => Or.inl z))
      have hkB : kp P_LB h h2 := fun q z hq hn => hk3 q z (hk_7 q z hq hn) (fun y => g_nz hq hfna_1 y)
      have hx9 : isLB D h2 x A bs Y ys (N : Int) tb := ⟨bl, yl, hx3⟩
      obtain ⟨bl, yl, fX, hA, hY, hbs, hys, hnd, hnd2⟩ := id hx9
      obtain ⟨eb, mb, fbl, -⟩ := id hA
      obtain ⟨ey, my, fyl, -⟩ := id hY
      obtain ⟨q1, fm, fq⟩ := id hm3
      refine g_widen (k' := 0 + 1 + 1) (n' := 0 + 4 + 1024) (by decide) (by decide) ?_
      show G D s0 p l e _ s m _ below meth c h2 _ _ _ (F0 m 51 ls [.ref na_1])
      refine g_s (fun kk => lv_astore_n (lv' := [(2, .ref na_1), (0, .ref x), (1, .int (iZ (bud)))]) X.1 X.2.1 d_LB_layer_51 rfl hl (by decide) rfl kk) (fun ls hl => ?_)
      refine g_1 (fun w => lv_iload_n X.1 X.2.1 d_LB_layer_52 rfl (lv_at hl 2 rfl) w) ?_
      refine g_1 (fun w => lv_iconst (v := iZ (-1)) X.1 X.2.1 d_LB_layer_53 rfl w) ?_
      refine g_icmp_ne (tgt := 64) X (by first | (split <;> exact ⟨by omega, by omega⟩) | exact ⟨by omega, by omega⟩ | exact cmpZ_ok _ _) (by first | (split <;> exact ⟨by omega, by omega⟩) | exact ⟨by omega, by omega⟩ | exact cmpZ_ok _ _) d_LB_layer_54 (by decide) (fun c54 => ?_) (fun c54 => ?_)
      · refine g_1 (fun w => lv_aload_n X.1 X.2.1 d_LB_layer_64 rfl (lv_at hl 1 rfl) w) ?_
        refine g_1 (fun w => lv_iload_n X.1 X.2.1 d_LB_layer_65 rfl (lv_at hl 2 rfl) w) ?_
        refine g_1 (fun w => lv_aload_n X.1 X.2.1 d_LB_layer_66 rfl (lv_at hl 0 rfl) w) ?_
        refine g_callV (na := 2) X (c_LB_takeSteepestSteps B0 hx9 hAl hYl hwf hm3 hfr.2 rfl hNl htb hbu (hQQ.trans (if_neg c54))) rfl fX rfl ⟨⟨tw_427, tw_1⟩, ⟨by decide, by decide, by decide +kernel⟩, by decide, by decide⟩ tw_424 tw_426 ts_LB_takeSteepestSteps rfl hl.1 (Nat.le_of_ble_eq_true rfl) ⟨by decide, by decide⟩ d_LB_layer_67 (fun v h5 hp => ?_)
        obtain ⟨rfl, hx5, hm5, hk5⟩ := hp
        have hkC : kp P_LB h h5 := kp_tr hkB hk5
        have hwq : ∀ i, i < A.length → wfB (QQ.1 i) := by rw [hQQ, show layQ A.length N bud bs tb = _ from if_neg c54]; exact tss_wf hwf
        obtain ⟨bl, yl, fX, hA, hY, hbs, hys, hnd, hnd2⟩ := id hx5
        obtain ⟨eb, mb, fbl, -⟩ := id hA
        obtain ⟨ey, my, fyl, -⟩ := id hY
        obtain ⟨q1, fm, fq⟩ := id hm5
        refine g_widen (k' := 0 + 1 + 1) (n' := 0 + 4 + 1024) (by decide) (by decide) ?_
        show G D s0 p l e _ s m _ below meth c h5 _ _ _ (F0 m 70 ls [])
        refine g_1 (fun w => lv_aload_n X.1 X.2.1 d_LB_layer_70 rfl (lv_at hl 1 rfl) w) ?_
        refine g_1 (fun w => lv_aload_n X.1 X.2.1 d_LB_layer_71 rfl (lv_at hl 0 rfl) w) ?_
        refine g_callV (na := 1) X (c_LB_recordCuts B0 hx5 hAl hYl hwq hm5 hfr.2 rfl) rfl fX rfl ⟨⟨tw_468, tw_1⟩, ⟨by decide, by decide, by decide +kernel⟩, by decide, by decide⟩ tw_465 tw_467 ts_LB_recordCuts rfl hl.1 (Nat.le_of_ble_eq_true rfl) ⟨by decide, by decide⟩ d_LB_layer_72 (fun v h6 hp => ?_)
        obtain ⟨rfl, cf, hcf, hx6, hm6, hk6⟩ := hp
        have hkD : kp P_LB h h6 := kp_tr hkC hk6
        obtain ⟨bl, yl, hx6b⟩ := id hx6
        obtain ⟨fX, hA, hY, -⟩ := id hx6b
        obtain ⟨eb, mb, fbl, -⟩ := id hA
        obtain ⟨ey, my, fyl, -⟩ := id hY
        obtain ⟨q1, fm, fq⟩ := id hm6
        refine g_widen (k' := 0 + 1 + 1) (n' := 0 + 4 + 1024) (by decide) (by decide) ?_
        show G D s0 p l e _ s m _ below meth c h6 _ _ _ (F0 m 75 ls [])
        refine g_1 (fun w => lv_aload_n X.1 X.2.1 d_LB_layer_75 rfl (lv_at hl 1 rfl) w) ?_
        refine g_get X (ci := 0) rfl fX 1 (by decide) ⟨rfl, rfl⟩ tw_56 (Or.inl rfl) rfl d_LB_layer_76 ?_
        refine g_1 (fun w => lv_aload_n X.1 X.2.1 d_LB_layer_79 rfl (lv_at hl 0 rfl) w) ?_
        refine g_callV (na := 1) X (c_AL_add1 B0 hY (by omega) (LBb_ob hx6b).2 ⟨_, _, _, fm, Or.inr rfl⟩) rfl fyl rfl ⟨⟨tw_222, tw_4⟩, ⟨by decide, by decide, by decide +kernel⟩, by decide, by decide⟩ tw_219 tw_220 tw_221 rfl hl.1 (Nat.le_of_ble_eq_true rfl) ⟨by decide, by decide⟩ d_LB_layer_80 (fun v h7 hp => ?_)
        obtain ⟨rfl, hY7, hk7⟩ := hp
        have hx7 := LBb_addY hx6b hm6 hfr.2 hY7 hk7
        have hkE : kp P_LB h h7 := kp_tr hkD (kpA_LB hY hk7)
        obtain ⟨q7, fm7, -⟩ := isLy_al hm6 hY hk7
        refine g_widen (k' := 0 + 1 + 1 + 1) (n' := 0 + 4 + 1024 + 1600) (by decide) (by decide) ?_
        show G D s0 p l e _ s m _ below meth c h7 _ _ _ (F0 m 83 ls [.int (iZ (1))])
        refine g_1 (fun w => lv_pop X.1 X.2.1 d_LB_layer_83 rfl w) ?_
        refine g_1 (fun w => lv_aload_n X.1 X.2.1 d_LB_layer_84 rfl (lv_at hl 0 rfl) w) ?_
        refine g_getN X (ci := 2) rfl fm7 1 (by decide) ⟨rfl, rfl⟩ tw_398 rfl d_LB_layer_85 ?_
        exact g_rx (g_iret X (⟨by omega, by omega, rfl, na_1, cf, hcf, hx7, hkE⟩) (by decide) (by decide) d_LB_layer_88)
      · refine g_1 (fun w => lv_aload_n X.1 X.2.1 d_LB_layer_57 rfl (lv_at hl 1 rfl) w) ?_
        refine g_callV (na := 0) X (c_LB_takeAllPasses B0 hx9 hAl hYl hwf) rfl fX rfl ⟨⟨tw_415, tw_1⟩, ⟨by decide, by decide, by decide +kernel⟩, by decide, by decide⟩ tw_412 tw_414 ts_LB_takeAllPasses rfl hl.1 (Nat.le_of_ble_eq_true rfl) ⟨by decide, by decide⟩ d_LB_layer_58 (fun v h5 hp => ?_)
        obtain ⟨rfl, hx5, hk5⟩ := hp
        have eq5 : (fun j => tka (bs j), sm (fun j => bB (bs j) (bP (bs j))) A.length, -1, -1) = QQ := hQQ ▸ (if_pos c54).symm
        have hx5 : isLB D h5 x A QQ.1 Y ys (N : Int) QQ.2.1 := by rw [← eq5]; exact hx5
        have hm5 : isLy D h5 na_1 (A.length, fun _ => 0, 0, QQ.2.2.1, QQ.2.2.2) := by
          rw [← eq5]
          exact hm3.kp hk5 (fun z => by rcases z with z | z | z; exact absurd z (show ¬ (2 : Nat) = 1 by decide); exact absurd z (show ¬ (2 : Nat) = 3 by decide); exact absurd z.1 (show ¬ (11 : Nat) ≤ 2 by decide)) (fun _ z => by rcases z with z | z | z; exact absurd z (show ¬ (15 : Nat) = 1 by decide); exact absurd z (show ¬ (15 : Nat) = 3 by decide); exact absurd z.2 (show ¬ (15 : Nat) ≤ 13 by decide))
        have hkC : kp P_LB h h5 := kp_tr hkB (XB_LB hk5)
        have hwq : ∀ i, i < A.length → wfB (QQ.1 i) := by rw [← eq5]; exact fun i hi => wfB_tka (hwf i hi)
        obtain ⟨bl, yl, fX, hA, hY, hbs, hys, hnd, hnd2⟩ := id hx5
        obtain ⟨eb, mb, fbl, -⟩ := id hA
        obtain ⟨ey, my, fyl, -⟩ := id hY
        obtain ⟨q1, fm, fq⟩ := id hm5
        refine g_widen (k' := 0 + 1 + 1) (n' := 0 + 4 + 1024) (by decide) (by decide) ?_
        show G D s0 p l e _ s m _ below meth c h5 _ _ _ (F0 m 61 ls [])
        refine g_goto (tgt := 70) X d_LB_layer_61 (by decide) ?_
        refine g_1 (fun w => lv_aload_n X.1 X.2.1 d_LB_layer_70 rfl (lv_at hl 1 rfl) w) ?_
        refine g_1 (fun w => lv_aload_n X.1 X.2.1 d_LB_layer_71 rfl (lv_at hl 0 rfl) w) ?_
        refine g_callV (na := 1) X (c_LB_recordCuts B0 hx5 hAl hYl hwq hm5 hfr.2 rfl) rfl fX rfl ⟨⟨tw_468, tw_1⟩, ⟨by decide, by decide, by decide +kernel⟩, by decide, by decide⟩ tw_465 tw_467 ts_LB_recordCuts rfl hl.1 (Nat.le_of_ble_eq_true rfl) ⟨by decide, by decide⟩ d_LB_layer_72 (fun v h6 hp => ?_)
        obtain ⟨rfl, cf, hcf, hx6, hm6, hk6⟩ := hp
        have hkD : kp P_LB h h6 := kp_tr hkC hk6
        obtain ⟨bl, yl, hx6b⟩ := id hx6
        obtain ⟨fX, hA, hY, -⟩ := id hx6b
        obtain ⟨eb, mb, fbl, -⟩ := id hA
        obtain ⟨ey, my, fyl, -⟩ := id hY
        obtain ⟨q1, fm, fq⟩ := id hm6
        refine g_widen (k' := 0 + 1 + 1) (n' := 0 + 4 + 1024) (by decide) (by decide) ?_
        show G D s0 p l e _ s m _ below meth c h6 _ _ _ (F0 m 75 ls [])
        refine g_1 (fun w => lv_aload_n X.1 X.2.1 d_LB_layer_75 rfl (lv_at hl 1 rfl) w) ?_
        refine g_get X (ci := 0) rfl fX 1 (by decide) ⟨rfl, rfl⟩ tw_56 (Or.inl rfl) rfl d_LB_layer_76 ?_
        refine g_1 (fun w => lv_aload_n X.1 X.2.1 d_LB_layer_79 rfl (lv_at hl 0 rfl) w) ?_
        refine g_callV (na := 1) X (c_AL_add1 B0 hY (by omega) (LBb_ob hx6b).2 ⟨_, _, _, fm, Or.inr rfl⟩) rfl fyl rfl ⟨⟨tw_222, tw_4⟩, ⟨by decide, by decide, by decide +kernel⟩, by decide, by decide⟩ tw_219 tw_220 tw_221 rfl hl.1 (Nat.le_of_ble_eq_true rfl) ⟨by decide, by decide⟩ d_LB_layer_80 (fun v h7 hp => ?_)
        obtain ⟨rfl, hY7, hk7⟩ := hp
        have hx7 := LBb_addY hx6b hm6 hfr.2 hY7 hk7
        have hkE : kp P_LB h h7 := kp_tr hkD (kpA_LB hY hk7)
        obtain ⟨q7, fm7, -⟩ := isLy_al hm6 hY hk7
        refine g_widen (k' := 0 + 1 + 1 + 1) (n' := 0 + 4 + 1024 + 1600) (by decide) (by decide) ?_
        show G D s0 p l e _ s m _ below meth c h7 _ _ _ (F0 m 83 ls [.int (iZ (1))])
        refine g_1 (fun w => lv_pop X.1 X.2.1 d_LB_layer_83 rfl w) ?_
        refine g_1 (fun w => lv_aload_n X.1 X.2.1 d_LB_layer_84 rfl (lv_at hl 0 rfl) w) ?_
        refine g_getN X (ci := 2) rfl fm7 1 (by decide) ⟨rfl, rfl⟩ tw_398 rfl d_LB_layer_85 ?_
        exact g_rx (g_iret X (⟨by omega, by omega, rfl, na_1, cf, hcf, hx7, hkE⟩) (by decide) (by decide) d_LB_layer_88)
    · exact g_throw X hfl hxt (i1 := 33) (i2 := 106) (i3 := 37) g_oa_IS (by decide +kernel) tw_120 tw_121 tw_11 (tx := "there are 64 layers") (by decide) (⟨Or.inr ⟨rfl, by omega, by omega⟩, rfl⟩) hl.1 (by decide) (by decide) ⟨by decide, by decide⟩ ⟨by decide, by decide⟩ d_LB_layer_27 d_LB_layer_30 d_LB_layer_31 d_LB_layer_33 d_LB_layer_36
  · exact g_throw X hfl hxt (i1 := 51) (i2 := 104) (i3 := 55) g_oa_IA (by decide +kernel) tw_286 tw_287 tw_17 (tx := "budget below NONE") (by decide) (⟨Or.inl ⟨rfl, by omega⟩, rfl⟩) hl.1 (by decide) (by decide) ⟨by decide, by decide⟩ ⟨by decide, by decide⟩ d_LB_layer_5 d_LB_layer_8 d_LB_layer_9 d_LB_layer_11 d_LB_layer_14
