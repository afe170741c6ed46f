set_option maxHeartbeats 4000000 in
set_option maxRecDepth 100000 in
theorem c_LB_dropLayers {D : va_G} {s0 : State} {l : Launch} {h : gH} (B0 : gB D s0) {x : Nat} {A Y : List Nat} {bs : Nat → Blk} {ys : Nat → Lay} {pn tb : Int} (hx : isLB D h x A bs Y ys pn tb) (hAl : A.length ≤ 1024) (hYl : Y.length ≤ 64) (hbo : ∀ i, i < A.length → okB (bs i)) (hE : Y.length = 0 → tb = 0 ∧ ∀ i, i < A.length → bT (bs i) = 0 ∧ bL (bs i) = 0) : gMet D s0 l y_LB_dropLayers b_LB_dropLayers 2 none ({ frames := 3, cells := 0, slots := 0, locals := 64 } : Room) [.ref x] h (fun v h' => none = v ∧ isLB D h' x A (fun j => rst (bs j)) [] ys pn 0 ∧ kp P_LB h h') := by
  obtain ⟨bl, yl, fX, hA, hY, hbs, hys, hnd, hnd2⟩ := id hx
  obtain ⟨eb, mb, fbl, -⟩ := id hA
  obtain ⟨ey, my, fyl, -⟩ := id hY
  refine g_enter B0 (plainFor_of_name (by decide)) (Nat.le_of_ble_eq_true rfl) (fun p e s m below meth c ls X hnm hl => ?_)
  have hl : lv_has ls 2 [(0, .ref x)] := hl
  have loop : ∀ (d i : Nat) (hh : gH) (ls : Array Slot), i + d = A.length → isLB D hh x A (upto rst bs i) [] ys pn 0 → kp P_LB h hh → lv_has ls 2 [(1, .int (iZ (i))), (0, .ref x)] → G D s0 p l e ({ frames := 3, cells := 0, slots := 0, locals := 64 } : Room) s m ([.ref x] : List Value).toArray below meth c hh 0 0 (MQ below (gQ D s0 (fun v h' => none = v ∧ isLB D h' x A (fun j => rst (bs j)) [] ys pn 0 ∧ kp P_LB h h')) ([.ref x] : List Value).toArray s 0 0 (fun q => s0.heap.size ≤ q)) (F0 m 25 ls []) := by
    intro d
    induction d with
    | zero =>
      intro i hh ls hi hx2 hkk hl
      obtain ⟨bl, yl, fX, hA, hY, hbs, hys, hnd, hnd2⟩ := id hx2
      obtain ⟨eb, mb, fbl, -⟩ := id hA
      obtain ⟨ey, my, fyl, -⟩ := id hY
      refine g_1 (fun w => lv_iload_n X.1 X.2.1 d_LB_dropLayers_25 rfl (lv_at hl 0 rfl) w) ?_
      refine g_1 (fun w => lv_aload_n X.1 X.2.1 d_LB_dropLayers_26 rfl (lv_at hl 1 rfl) w) ?_
      refine g_get X (ci := 0) rfl fX 0 (by decide) ⟨rfl, rfl⟩ tw_55 (Or.inl rfl) rfl d_LB_dropLayers_27 ?_
      refine g_callV (na := 0) X (c_AL_size B0 hA) rfl fbl rfl ⟨⟨tw_87, tw_4⟩, ⟨by decide, by decide, by decide +kernel⟩, by decide, by decide⟩ tw_84 tw_85 tw_86 rfl hl.1 (Nat.le_of_ble_eq_true rfl) ⟨by decide, by decide⟩ d_LB_dropLayers_30 (fun v h' hp => ?_)
      obtain ⟨rfl, rfl⟩ := hp
      refine g_widen (k' := 0) (n' := 0) (by decide) (by decide) ?_
      show G D s0 p l e _ s m _ below meth c hh _ _ _ (F0 m 33 ls [.int (iZ (A.length)), .int (iZ (i))])
      refine g_icmp_ge (tgt := 56) X (by first | (split <;> exact ⟨by omega, by omega⟩) | exact ⟨by omega, by omega⟩ | exact cmpZ_ok _ _) (by first | (split <;> exact ⟨by omega, by omega⟩) | exact ⟨by omega, by omega⟩ | exact cmpZ_ok _ _) d_LB_dropLayers_33 (by decide) (fun c33 => ?_) (fun c33 => ?_)
      · exact g_vret X (⟨rfl, hx2.congr (fun j hj => by rw [show i = A.length by omega, upto_lt hj]), hkk⟩) (by decide) (by decide) d_LB_dropLayers_56
      · exfalso
        omega
    | succ d ih =>
      intro i hh ls hi hx2 hkk hl
      obtain ⟨bl, yl, fX, hA, hY, hbs, hys, hnd, hnd2⟩ := id hx2
      obtain ⟨eb, mb, fbl, -⟩ := id hA
      obtain ⟨ey, my, fyl, -⟩ := id hY
      have hb1 : isBk D hh (A.getD i 0) (bs i) := by have z := hbs i (by omega); rw [upto_at] at z; exact z
      obtain ⟨p1, p2, p3, fb, -⟩ := id hb1
      refine g_1 (fun w => lv_iload_n X.1 X.2.1 d_LB_dropLayers_25 rfl (lv_at hl 0 rfl) w) ?_
      refine g_1 (fun w => lv_aload_n X.1 X.2.1 d_LB_dropLayers_26 rfl (lv_at hl 1 rfl) w) ?_
      refine g_get X (ci := 0) rfl fX 0 (by decide) ⟨rfl, rfl⟩ tw_55 (Or.inl rfl) rfl d_LB_dropLayers_27 ?_
      refine g_callV (na := 0) X (c_AL_size B0 hA) rfl fbl rfl ⟨⟨tw_87, tw_4⟩, ⟨by decide, by decide, by decide +kernel⟩, by decide, by decide⟩ tw_84 tw_85 tw_86 rfl hl.1 (Nat.le_of_ble_eq_true rfl) ⟨by decide, by decide⟩ d_LB_dropLayers_30 (fun v h' hp => ?_)
      obtain ⟨rfl, rfl⟩ := hp
      refine g_widen (k' := 0) (n' := 0) (by decide) (by decide) ?_
      show G D s0 p l e _ s m _ below meth c hh _ _ _ (F0 m 33 ls [.int (iZ (A.length)), .int (iZ (i))])
      refine g_icmp_ge (tgt := 56) X (by first | (split <;> exact ⟨by omega, by omega⟩) | exact ⟨by omega, by omega⟩ | exact cmpZ_ok _ _) (by first | (split <;> exact ⟨by omega, by omega⟩) | exact ⟨by omega, by omega⟩ | exact cmpZ_ok _ _) d_LB_dropLayers_33 (by decide) (fun c33 => ?_) (fun c33 => ?_)
      · exfalso
        omega
      · refine g_1 (fun w => lv_aload_n X.1 X.2.1 d_LB_dropLayers_36 rfl (lv_at hl 1 rfl) w) ?_
        refine g_get X (ci := 0) rfl fX 0 (by decide) ⟨rfl, rfl⟩ tw_55 (Or.inl rfl) rfl d_LB_dropLayers_37 ?_
        refine g_1 (fun w => lv_iload_n X.1 X.2.1 d_LB_dropLayers_40 rfl (lv_at hl 0 rfl) w) ?_
        refine g_callV (na := 1) X (c_AL_get B0 hA i (by omega)) rfl fbl rfl ⟨⟨tw_91, tw_4⟩, ⟨by decide, by decide, by decide +kernel⟩, by decide, by decide⟩ tw_88 tw_89 tw_90 rfl hl.1 (Nat.le_of_ble_eq_true rfl) ⟨by decide, by decide⟩ d_LB_dropLayers_41 (fun v h' hp => ?_)
        obtain ⟨rfl, rfl⟩ := hp
        refine g_widen (k' := 0) (n' := 0) (by decide) (by decide) ?_
        show G D s0 p l e _ s m _ below meth c hh _ _ _ (F0 m 44 ls [.ref (A.getD i 0)])
        refine g_cast X fb rfl tw_102 tw_652 d_LB_dropLayers_44 ?_
        refine g_callVN (na := 0) X (c_BK_takeNothing B0 hb1 (hbo i (by omega))) rfl fb rfl ⟨⟨tw_107, tw_12⟩, ⟨by decide, by decide, by decide +kernel⟩, by decide, by decide⟩ tw_103 tw_105 ts_BK_takeNothing rfl hl.1 (Nat.le_of_ble_eq_true rfl) ⟨by decide, by decide⟩ d_LB_dropLayers_47 (fun v h' hp => ?_)
        obtain ⟨rfl, hb2, hk2⟩ := hp
        have hx3 : isLB D h' x A (upto rst bs (i + 1)) [] ys pn 0 := by rw [← upto_succ]; exact hx2.setB (by omega) hb2 hk2
        have hk3 := kp_tr hkk (kpB_LB hb1 hk2)
        refine g_widen (k' := 0) (n' := 0) (by decide) (by decide) ?_
        show G D s0 p l e _ s m _ below meth c h' _ _ _ (F0 m 50 ls [])
        refine g_s (fun kk => lv_iinc (v := iZ (i + 1)) (lv' := [(1, .int (iZ (i + 1))), (0, .ref x)]) X.1 X.2.1 d_LB_dropLayers_50 hl (k := 0) rfl (iZ_add _ _) (by decide) rfl kk) (fun ls hl => ?_)
        refine g_goto (tgt := 25) X d_LB_dropLayers_53 (by decide) ?_
        exact ih (i + 1) h' ls (by omega) hx3 hk3 (lv_sub hl [0, 1] rfl)
  refine g_1 (fun w => lv_aload_n X.1 X.2.1 d_LB_dropLayers_0 rfl (lv_at hl 0 rfl) w) ?_
  refine g_get X (ci := 0) rfl fX 1 (by decide) ⟨rfl, rfl⟩ tw_56 (Or.inl rfl) rfl d_LB_dropLayers_1 ?_
  refine g_callV (na := 0) X (c_AL_isEmpty B0 hY (by omega)) rfl fyl rfl ⟨⟨tw_79, tw_4⟩, ⟨by decide, by decide, by decide +kernel⟩, by decide, by decide⟩ tw_76 tw_77 tw_78 rfl hl.1 (Nat.le_of_ble_eq_true rfl) ⟨by decide, by decide⟩ d_LB_dropLayers_4 (fun v h' hp => ?_)
  obtain ⟨rfl, rfl⟩ := hp
  refine g_widen (k' := 0) (n' := 0) (by decide) (by decide) ?_
  show G D s0 p l e _ s m _ below meth c h _ _ _ (F0 m 7 ls [.int (iZ (if Y.length = 0 then 1 else 0))])
  refine g_if_eq (tgt := 11) X (by first | (split <;> exact ⟨by omega, by omega⟩) | exact ⟨by omega, by omega⟩ | exact cmpZ_ok _ _) d_LB_dropLayers_7 (by decide) (fun c7 => ?_) (fun c7 => ?_)
  · refine g_1 (fun w => lv_aload_n X.1 X.2.1 d_LB_dropLayers_11 rfl (lv_at hl 0 rfl) w) ?_
    refine g_get X (ci := 0) rfl fX 1 (by decide) ⟨rfl, rfl⟩ tw_56 (Or.inl rfl) rfl d_LB_dropLayers_12 ?_
    refine g_callV (na := 0) X (c_AL_clear B0 hY (by omega)) rfl fyl rfl ⟨⟨tw_83, tw_4⟩, ⟨by decide, by decide, by decide +kernel⟩, by decide, by decide⟩ tw_80 tw_81 tw_82 rfl hl.1 (Nat.le_of_ble_eq_true rfl) ⟨by decide, by decide⟩ d_LB_dropLayers_15 (fun v h' hp => ?_)
    obtain ⟨rfl, qY, hk1⟩ := hp
    have hkq : kp P_LB h h' := kpA_LB hY hk1
    have fX2 := kpA_oth hY hk1 fX (show (3 : Nat) ≠ 5 by decide) (show (3 : Nat) ≠ 14 by decide)
    have hx2 : isLB D h' x A bs [] ys pn tb := ⟨bl, yl, fX2, isAL_oth hA hY (by decide) hk1, qY, fun i hi => isBk_al (hbs i hi) hY hk1, fun i hi => absurd hi (Nat.not_lt_zero _), hnd, List.nodup_nil⟩
    refine g_widen (k' := 0) (n' := 0) (by decide) (by decide) ?_
    show G D s0 p l e _ s m _ below meth c h' _ _ _ (F0 m 18 ls [])
    refine g_1 (fun w => lv_aload_n X.1 X.2.1 d_LB_dropLayers_18 rfl (lv_at hl 0 rfl) w) ?_
    refine g_1 (fun w => lv_iconst (v := iZ 0) X.1 X.2.1 d_LB_dropLayers_19 rfl w) ?_
    refine g_put X (ci := 0) rfl fX2 (Nat.succ_ne_zero _) 3 (by decide) ⟨rfl, rfl⟩ tw_58 (Or.inl rfl) rfl rfl rfl (Nat.le_of_ble_eq_true rfl) d_LB_dropLayers_20 ?_
    obtain ⟨h_1, eh_1⟩ : ∃ z, z = g_up h' x ((3, 0), .inr (0, [.ref bl, .ref yl, .int (iZ (pn)), .int (iZ (0))])) := ⟨_, rfl⟩
    refine g_h (h' := h_1) eh_1.symm ?_
    have f_2 : h_1 x = some ((3, 0), .inr (0, [.ref bl, .ref yl, .int (iZ (pn)), .int (iZ (0))])) := by rw [eh_1]; exact g_us
    have hk_3 := kp_up (hkq) eh_1 fX2 (⟨Nat.le_of_ble_eq_true rfl, Nat.le_of_ble_eq_true rfl⟩)
    refine g_1 (fun w => lv_iconst (v := iZ 0) X.1 X.2.1 d_LB_dropLayers_23 rfl w) ?_
    refine g_s (fun kk => lv_istore_n (lv' := [(1, .int (iZ (0))), (0, .ref x)]) X.1 X.2.1 d_LB_dropLayers_24 rfl hl (by decide) rfl kk) (fun ls hl => ?_)
    exact loop A.length 0 h_1 ls (by omega) (by rw [upto_0]; exact hx2.setX fX2 eh_1) hk_3 (lv_sub hl [0, 1] rfl)
  · have hfin : isLB D h x A (fun j => rst (bs j)) [] ys pn 0 := by
      obtain ⟨e1, e2⟩ := hE (if_1 c7)
      obtain rfl : Y = [] := List.eq_nil_of_length_eq_zero (if_1 c7)
      subst e1
      exact hx.congr (fun i hi => rst_id (e2 i hi).1 (e2 i hi).2)
    exact g_vret X (⟨rfl, hfin, kp_rf⟩) (by decide) (by decide) d_LB_dropLayers_10

set_option maxHeartbeats 4000000 in
set_option maxRecDepth 100000 in
theorem c_LB_clear {D : va_G} {s0 : State} {l : Launch} {h : gH} (B0 : gB D s0) {x : Nat} {A Y : List Nat} {bs : Nat → Blk} {ys : Nat → Lay} {pn tb : Int} (hx : isLB D h x A bs Y ys pn tb) (hAl : A.length ≤ 1024) (hYl : Y.length ≤ 64) (hbo : ∀ i, i < A.length → okB (bs i)) (hE : Y.length = 0 → tb = 0 ∧ ∀ i, i < A.length → bT (bs i) = 0 ∧ bL (bs i) = 0) : gMet D s0 l y_LB_clear b_LB_clear 1 none ({ frames := 4, cells := 0, slots := 0, locals := 85 } : Room) [.ref x] h (fun v h' => none = v ∧ isLB D h' x [] bs [] ys 0 0 ∧ kp P_LB h h') := by
  obtain ⟨bl, yl, fX, hA, hY, hbs, hys, hnd, hnd2⟩ := id hx
  obtain ⟨eb, mb, fbl, -⟩ := id hA
  obtain ⟨ey, my, fyl, -⟩ := id hY
  refine g_enter B0 (plainFor_of_name (by decide)) (Nat.le_of_ble_eq_true rfl) (fun p e s m below meth c ls X hnm hl => ?_)
  have hl : lv_has ls 1 [(0, .ref x)] := hl
  refine g_1 (fun w => lv_aload_n X.1 X.2.1 d_LB_clear_0 rfl (lv_at hl 0 rfl) w) ?_
  refine g_callV (na := 0) X (c_LB_dropLayers B0 hx hAl hYl hbo hE) rfl fX rfl ⟨⟨tw_75, tw_1⟩, ⟨by decide, by decide, by decide +kernel⟩, by decide, by decide⟩ tw_72 tw_74 ts_LB_dropLayers rfl hl.1 (Nat.le_of_ble_eq_true rfl) ⟨by decide, by decide⟩ d_LB_clear_1 (fun v h' hp => ?_)
  obtain ⟨rfl, hx1, hk1⟩ := hp
  obtain ⟨bl, yl, fX, hA, hY, hbs, hys, hnd, hnd2⟩ := id hx1
  obtain ⟨eb, mb, fbl, -⟩ := id hA
  obtain ⟨ey, my, fyl, -⟩ := id hY
  refine g_widen (k' := 0) (n' := 0) (by decide) (by decide) ?_
  show G D s0 p l e _ s m _ below meth c h' _ _ _ (F0 m 4 ls [])
  refine g_1 (fun w => lv_aload_n X.1 X.2.1 d_LB_clear_4 rfl (lv_at hl 0 rfl) w) ?_
  refine g_get X (ci := 0) rfl fX 0 (by decide) ⟨rfl, rfl⟩ tw_55 (Or.inl rfl) rfl d_LB_clear_5 ?_
  refine g_callV (na := 0) X (c_AL_clear B0 hA (by omega)) rfl fbl rfl ⟨⟨tw_83, tw_4⟩, ⟨by decide, by decide, by decide +kernel⟩, by decide, by decide⟩ tw_80 tw_81 tw_82 rfl hl.1 (Nat.le_of_ble_eq_true rfl) ⟨by decide, by decide⟩ d_LB_clear_8 (fun v h2 hp => ?_)
  obtain ⟨rfl, qA, hk2⟩ := hp
  have hkq : kp P_LB h h2 := kp_tr hk1 (kpA_LB hA hk2)
  have fX2 := kpA_oth hA hk2 fX (show (3 : Nat) ≠ 5 by decide) (show (3 : Nat) ≠ 14 by decide)
  have hx2 : isLB D h2 x [] bs [] ys pn 0 := ⟨bl, yl, fX2, qA, isAL_oth hY hA (by decide) hk2, fun i hi => absurd hi (Nat.not_lt_zero _), fun i hi => absurd hi (Nat.not_lt_zero _), List.nodup_nil, List.nodup_nil⟩
  refine g_widen (k' := 0) (n' := 0) (by decide) (by decide) ?_
  show G D s0 p l e _ s m _ below meth c h2 _ _ _ (F0 m 11 ls [])
  refine g_1 (fun w => lv_aload_n X.1 X.2.1 d_LB_clear_11 rfl (lv_at hl 0 rfl) w) ?_
  refine g_1 (fun w => lv_iconst (v := iZ 0) X.1 X.2.1 d_LB_clear_12 rfl w) ?_
  refine g_put X (ci := 0) rfl fX2 (Nat.succ_ne_zero _) 2 (by decide) ⟨rfl, rfl⟩ tw_57 (Or.inl rfl) rfl rfl rfl (Nat.le_of_ble_eq_true rfl) d_LB_clear_13 ?_
  obtain ⟨h_1, eh_1⟩ : ∃ z, z = g_up h2 x ((3, 0), .inr (0, [.ref bl, .ref yl, .int (iZ (0)), .int (iZ (0))])) := ⟨_, rfl⟩
  refine g_h (h' := h_1) eh_1.symm ?_
  have f_2 : h_1 x = some ((3, 0), .inr (0, [.ref bl, .ref yl, .int (iZ (0)), .int (iZ (0))])) := by rw [eh_1]; exact g_us
  have hk_3 := kp_up (hkq) eh_1 fX2 (⟨Nat.le_of_ble_eq_true rfl, Nat.le_of_ble_eq_true rfl⟩)
  exact g_vret X (⟨rfl, hx2.setX fX2 eh_1, hk_3⟩) (by decide) (by decide) d_LB_clear_16
