theorem cV_has {M : Mdl} {n b : Nat} {bs : Nat → Blk} (h : cV M n bs) (hb : b < n) (hx : 0 ≤ aX M b) : hN (bs b) := by
  have z := (h b hb).2
  rcases Classical.em (hN (bs b)) with y | y
  · exact y
  · rw [if_neg y] at z; omega
theorem cV_hasn {M : Mdl} {n b : Nat} {bs : Nat → Blk} (h : cV M n bs) (hb : b < n) (hx : aX M b < 0) : ¬ hN (bs b) := by
  intro y
  have z := (h b hb).2
  rw [if_pos y] at z
  omega
theorem cV_ok {M : Mdl} {n b : Nat} {bs : Nat → Blk} (h : cV M n bs) (hb : b < n) (hw : wfC (bs b)) : i_ok (aX M b) ∧ i_ok (aK M b) := by
  obtain ⟨z1, z2⟩ := h b hb
  rw [z1, z2]
  have k5 := hw.1.1.2.2.2.2.1 (bT (bs b) + 1)
  have k4 := hw.1.1.2.2.2.1
  have k1 := hw.1.1.1
  exact ⟨ok_if k5, by omega, by omega⟩

set_option maxHeartbeats 4000000 in
set_option maxRecDepth 100000 in
theorem c_MD_against {D : va_G} {s0 : State} {l : Launch} {h : gH} (B0 : gB D s0) {a n : Nat} {M : Mdl} {bs : Nat → Blk} (hm : isMD D h a M) (hv : mV M n bs) (hw : ∀ b, b < n → wfC (bs b)) (hc : cV M n bs) (b y : Nat) (hb : b < n) (hy : y < n) (tb : hN (bs b)) (ty : hN (bs y)) : gMet D s0 l y_MD_against b_MD_against 3 (some .int) ({ frames := 1, cells := 0, slots := 0, locals := 29 } : Room) [.ref a, .int (iZ (b)), .int (iZ (y))] h (fun v h' => some (.int (iZ (cmpZ (nG (bs b) * nB (bs y)) (nG (bs y) * nB (bs b))))) = v ∧ h = h') := by
  obtain ⟨p3, p4, p6, p7, p9, p10, p11, p12, p13, p14, f0, f3, f4, f6, f7, f9, f10, f11, f12, f13, f14⟩ := id hm
  obtain ⟨v1, v2, v3, v4, v5⟩ := id hv
  obtain ⟨g1b, g2b⟩ := hc b hb
  have hwb := hw b hb
  have nbb := nB_bd hwb.1
  have npb := hwb.up (s := bT (bs b)) tb
  have n0b := nbb.1 tb
  have z1b := hwb.1.2.2.1 _ tb
  have e1b : aK M b = ((bC (bs b) (bT (bs b)) : Nat) : Int) := by rw [g1b, hwb.1.2.2.2 tb]
  have e2b : aX M b = ((bC (bs b) (bT (bs b) + 1) : Nat) : Int) := by rw [g2b, if_pos tb]
  have ngb : 0 < nG (bs b) := by show 0 < bG (bs b) (bC (bs b) (bT (bs b) + 1)) - bG (bs b) (bC (bs b) (bT (bs b))); omega
  obtain ⟨g1y, g2y⟩ := hc y hy
  have hwy := hw y hy
  have nby := nB_bd hwy.1
  have npy := hwy.up (s := bT (bs y)) ty
  have n0y := nby.1 ty
  have z1y := hwy.1.2.2.1 _ ty
  have e1y : aK M y = ((bC (bs y) (bT (bs y)) : Nat) : Int) := by rw [g1y, hwy.1.2.2.2 ty]
  have e2y : aX M y = ((bC (bs y) (bT (bs y) + 1) : Nat) : Int) := by rw [g2y, if_pos ty]
  have ngy : 0 < nG (bs y) := by show 0 < bG (bs y) (bC (bs y) (bT (bs y) + 1)) - bG (bs y) (bC (bs y) (bT (bs y))); omega
  refine g_enter B0 (plainFor_of_name (by decide)) (Nat.le_of_ble_eq_true rfl) (fun p e s m below meth c ls X hnm hl => ?_)
  have hl : lv_has ls 3 [(0, .ref a), (1, .int (iZ (b))), (2, .int (iZ (y)))] := hl
  refine g_1 (fun w => lv_aload_n X.1 X.2.1 d_MD_against_0 rfl (lv_at hl 0 rfl) w) ?_
  refine g_1 (fun w => lv_iload_n X.1 X.2.1 d_MD_against_1 rfl (lv_at hl 1 rfl) w) ?_
  refine g_1 (fun w => lv_aload_n X.1 X.2.1 d_MD_against_2 rfl (lv_at hl 0 rfl) w) ?_
  refine g_get X (ci := 4) rfl f0 13 (by decide) ⟨rfl, rfl⟩ tw_515 (Or.inl rfl) rfl d_MD_against_3 ?_
  refine g_1 (fun w => lv_iload_n X.1 X.2.1 d_MD_against_6 rfl (lv_at hl 1 rfl) w) ?_
  refine g_ild X f13 (b) (rfl) (by omega) (by omega) d_MD_against_7 ?_
  refine g_ti (congrArg iZ (show (aK M b : Int) = bC (bs b) (bT (bs b)) from e1b)) ?_
  refine g_1 (fun w => lv_aload_n X.1 X.2.1 d_MD_against_8 rfl (lv_at hl 0 rfl) w) ?_
  refine g_get X (ci := 4) rfl f0 14 (by decide) ⟨rfl, rfl⟩ tw_516 (Or.inl rfl) rfl d_MD_against_9 ?_
  refine g_1 (fun w => lv_iload_n X.1 X.2.1 d_MD_against_12 rfl (lv_at hl 1 rfl) w) ?_
  refine g_ild X f14 (b) (rfl) (by omega) (by omega) d_MD_against_13 ?_
  refine g_ti (congrArg iZ (show (aX M b : Int) = bC (bs b) (bT (bs b) + 1) from e2b)) ?_
  refine g_callV (na := 3) X (c_MD_gainOf B0 hm hv hw b (bC (bs b) (bT (bs b))) (bC (bs b) (bT (bs b) + 1)) (by omega) (by omega) (by omega)) rfl f0 rfl ⟨⟨tw_589, tw_5⟩, ⟨by decide, by decide, by decide +kernel⟩, by decide, by decide⟩ tw_586 tw_588 ts_MD_gainOf rfl hl.1 (Nat.le_of_ble_eq_true rfl) ⟨by decide, by decide⟩ d_MD_against_14 (fun v h' hp => ?_)
  obtain ⟨rfl, rfl⟩ := hp
  refine g_widen (k' := 0) (n' := 0) (by decide) (by decide) ?_
  show G D s0 p l e _ s m _ below meth c h _ _ _ (F0 m 17 ls [.long (lZ (bG (bs b) (bC (bs b) (bT (bs b) + 1)) - bG (bs b) (bC (bs b) (bT (bs b)))))])
  refine g_1 (fun w => lv_aload_n X.1 X.2.1 d_MD_against_17 rfl (lv_at hl 0 rfl) w) ?_
  refine g_1 (fun w => lv_iload_n X.1 X.2.1 d_MD_against_18 rfl (lv_at hl 1 rfl) w) ?_
  refine g_1 (fun w => lv_aload_n X.1 X.2.1 d_MD_against_19 rfl (lv_at hl 0 rfl) w) ?_
  refine g_get X (ci := 4) rfl f0 13 (by decide) ⟨rfl, rfl⟩ tw_515 (Or.inl rfl) rfl d_MD_against_20 ?_
  refine g_1 (fun w => lv_iload_n X.1 X.2.1 d_MD_against_23 rfl (lv_at hl 1 rfl) w) ?_
  refine g_ild X f13 (b) (rfl) (by omega) (by omega) d_MD_against_24 ?_
  refine g_ti (congrArg iZ (show (aK M b : Int) = bC (bs b) (bT (bs b)) from e1b)) ?_
  refine g_1 (fun w => lv_aload_n X.1 X.2.1 d_MD_against_25 rfl (lv_at hl 0 rfl) w) ?_
  refine g_get X (ci := 4) rfl f0 14 (by decide) ⟨rfl, rfl⟩ tw_516 (Or.inl rfl) rfl d_MD_against_26 ?_
  refine g_1 (fun w => lv_iload_n X.1 X.2.1 d_MD_against_29 rfl (lv_at hl 1 rfl) w) ?_
  refine g_ild X f14 (b) (rfl) (by omega) (by omega) d_MD_against_30 ?_
  refine g_ti (congrArg iZ (show (aX M b : Int) = bC (bs b) (bT (bs b) + 1) from e2b)) ?_
  refine g_callV (na := 3) X (c_MD_bytesOf B0 hm hv hw b (bC (bs b) (bT (bs b))) (bC (bs b) (bT (bs b) + 1)) (by omega) (by omega) (by omega)) rfl f0 rfl ⟨⟨tw_593, tw_5⟩, ⟨by decide, by decide, by decide +kernel⟩, by decide, by decide⟩ tw_590 tw_592 ts_MD_bytesOf rfl hl.1 (Nat.le_of_ble_eq_true rfl) ⟨by decide, by decide⟩ d_MD_against_31 (fun v h' hp => ?_)
  obtain ⟨rfl, rfl⟩ := hp
  refine g_widen (k' := 0) (n' := 0) (by decide) (by decide) ?_
  show G D s0 p l e _ s m _ below meth c h _ _ _ (F0 m 34 ls [.int (iZ (bB (bs b) (bC (bs b) (bT (bs b) + 1)) - bB (bs b) (bC (bs b) (bT (bs b))))), .long (lZ (bG (bs b) (bC (bs b) (bT (bs b) + 1)) - bG (bs b) (bC (bs b) (bT (bs b)))))])
  refine g_1 (fun w => lv_aload_n X.1 X.2.1 d_MD_against_34 rfl (lv_at hl 0 rfl) w) ?_
  refine g_1 (fun w => lv_iload_n X.1 X.2.1 d_MD_against_35 rfl (lv_at hl 2 rfl) w) ?_
  refine g_1 (fun w => lv_aload_n X.1 X.2.1 d_MD_against_36 rfl (lv_at hl 0 rfl) w) ?_
  refine g_get X (ci := 4) rfl f0 13 (by decide) ⟨rfl, rfl⟩ tw_515 (Or.inl rfl) rfl d_MD_against_37 ?_
  refine g_1 (fun w => lv_iload_n X.1 X.2.1 d_MD_against_40 rfl (lv_at hl 2 rfl) w) ?_
  refine g_ild X f13 (y) (rfl) (by omega) (by omega) d_MD_against_41 ?_
  refine g_ti (congrArg iZ (show (aK M y : Int) = bC (bs y) (bT (bs y)) from e1y)) ?_
  refine g_1 (fun w => lv_aload_n X.1 X.2.1 d_MD_against_42 rfl (lv_at hl 0 rfl) w) ?_
  refine g_get X (ci := 4) rfl f0 14 (by decide) ⟨rfl, rfl⟩ tw_516 (Or.inl rfl) rfl d_MD_against_43 ?_
  refine g_1 (fun w => lv_iload_n X.1 X.2.1 d_MD_against_46 rfl (lv_at hl 2 rfl) w) ?_
  refine g_ild X f14 (y) (rfl) (by omega) (by omega) d_MD_against_47 ?_
  refine g_ti (congrArg iZ (show (aX M y : Int) = bC (bs y) (bT (bs y) + 1) from e2y)) ?_
  refine g_callV (na := 3) X (c_MD_gainOf B0 hm hv hw y (bC (bs y) (bT (bs y))) (bC (bs y) (bT (bs y) + 1)) (by omega) (by omega) (by omega)) rfl f0 rfl ⟨⟨tw_589, tw_5⟩, ⟨by decide, by decide, by decide +kernel⟩, by decide, by decide⟩ tw_586 tw_588 ts_MD_gainOf rfl hl.1 (Nat.le_of_ble_eq_true rfl) ⟨by decide, by decide⟩ d_MD_against_48 (fun v h' hp => ?_)
  obtain ⟨rfl, rfl⟩ := hp
  refine g_widen (k' := 0) (n' := 0) (by decide) (by decide) ?_
  show G D s0 p l e _ s m _ below meth c h _ _ _ (F0 m 51 ls [.long (lZ (bG (bs y) (bC (bs y) (bT (bs y) + 1)) - bG (bs y) (bC (bs y) (bT (bs y))))), .int (iZ (bB (bs b) (bC (bs b) (bT (bs b) + 1)) - bB (bs b) (bC (bs b) (bT (bs b))))), .long (lZ (bG (bs b) (bC (bs b) (bT (bs b) + 1)) - bG (bs b) (bC (bs b) (bT (bs b)))))])
  refine g_1 (fun w => lv_aload_n X.1 X.2.1 d_MD_against_51 rfl (lv_at hl 0 rfl) w) ?_
  refine g_1 (fun w => lv_iload_n X.1 X.2.1 d_MD_against_52 rfl (lv_at hl 2 rfl) w) ?_
  refine g_1 (fun w => lv_aload_n X.1 X.2.1 d_MD_against_53 rfl (lv_at hl 0 rfl) w) ?_
  refine g_get X (ci := 4) rfl f0 13 (by decide) ⟨rfl, rfl⟩ tw_515 (Or.inl rfl) rfl d_MD_against_54 ?_
  refine g_1 (fun w => lv_iload_n X.1 X.2.1 d_MD_against_57 rfl (lv_at hl 2 rfl) w) ?_
  refine g_ild X f13 (y) (rfl) (by omega) (by omega) d_MD_against_58 ?_
  refine g_ti (congrArg iZ (show (aK M y : Int) = bC (bs y) (bT (bs y)) from e1y)) ?_
  refine g_1 (fun w => lv_aload_n X.1 X.2.1 d_MD_against_59 rfl (lv_at hl 0 rfl) w) ?_
  refine g_get X (ci := 4) rfl f0 14 (by decide) ⟨rfl, rfl⟩ tw_516 (Or.inl rfl) rfl d_MD_against_60 ?_
  refine g_1 (fun w => lv_iload_n X.1 X.2.1 d_MD_against_63 rfl (lv_at hl 2 rfl) w) ?_
  refine g_ild X f14 (y) (rfl) (by omega) (by omega) d_MD_against_64 ?_
  refine g_ti (congrArg iZ (show (aX M y : Int) = bC (bs y) (bT (bs y) + 1) from e2y)) ?_
  refine g_callV (na := 3) X (c_MD_bytesOf B0 hm hv hw y (bC (bs y) (bT (bs y))) (bC (bs y) (bT (bs y) + 1)) (by omega) (by omega) (by omega)) rfl f0 rfl ⟨⟨tw_593, tw_5⟩, ⟨by decide, by decide, by decide +kernel⟩, by decide, by decide⟩ tw_590 tw_592 ts_MD_bytesOf rfl hl.1 (Nat.le_of_ble_eq_true rfl) ⟨by decide, by decide⟩ d_MD_against_65 (fun v h' hp => ?_)
  obtain ⟨rfl, rfl⟩ := hp
  refine g_widen (k' := 0) (n' := 0) (by decide) (by decide) ?_
  show G D s0 p l e _ s m _ below meth c h _ _ _ (F0 m 68 ls [.int (iZ (bB (bs y) (bC (bs y) (bT (bs y) + 1)) - bB (bs y) (bC (bs y) (bT (bs y))))), .long (lZ (bG (bs y) (bC (bs y) (bT (bs y) + 1)) - bG (bs y) (bC (bs y) (bT (bs y))))), .int (iZ (bB (bs b) (bC (bs b) (bT (bs b) + 1)) - bB (bs b) (bC (bs b) (bT (bs b))))), .long (lZ (bG (bs b) (bC (bs b) (bT (bs b) + 1)) - bG (bs b) (bC (bs b) (bT (bs b)))))])
  refine g_callS (na := 4) X (c_MD_compare B0 ngb (by omega) n0b nbb.2.1 ngy (by omega) n0y nby.2.1) rfl ⟨⟨tw_596, tw_5⟩, ⟨by decide, by decide, by decide +kernel⟩, by decide, by decide⟩ tw_594 tw_595 rfl hl.1 (Nat.le_of_ble_eq_true rfl) ⟨by decide, by decide⟩ d_MD_against_68 (fun v h' hp => ?_)
  obtain ⟨rfl, rfl⟩ := hp
  refine g_widen (k' := 0) (n' := 0) (by decide) (by decide) ?_
  show G D s0 p l e _ s m _ below meth c h _ _ _ (F0 m 71 ls [.int (iZ (cmpZ (nG (bs b) * nB (bs y)) (nG (bs y) * nB (bs b))))])
  exact g_iret X (⟨rfl, rfl⟩) (by decide) (by decide) d_MD_against_71

set_option maxHeartbeats 4000000 in
set_option maxRecDepth 100000 in
theorem c_MD_steepest {D : va_G} {s0 : State} {l : Launch} {h : gH} (B0 : gB D s0) {a n : Nat} {M : Mdl} {bs : Nat → Blk} (hm : isMD D h a M) (hv : mV M n bs) (hw : ∀ b, b < n → wfC (bs b)) (hc : cV M n bs) : gMet D s0 l y_MD_steepest b_MD_steepest 3 (some .int) ({ frames := 2, cells := 0, slots := 0, locals := 51 } : Room) [.ref a] h (fun v h' => some (.int (iZ ((stp bs n : Int) - 1))) = v ∧ h = h') := by
  obtain ⟨p3, p4, p6, p7, p9, p10, p11, p12, p13, p14, f0, f3, f4, f6, f7, f9, f10, f11, f12, f13, f14⟩ := id hm
  obtain ⟨v1, v2, v3, v4, v5⟩ := id hv
  refine g_enter B0 (plainFor_of_name (by decide)) (Nat.le_of_ble_eq_true rfl) (fun p e s m below meth c ls X hnm hl => ?_)
  have hl : lv_has ls 3 [(0, .ref a)] := hl
  have loop : ∀ (d i r : Nat) (ls : Array Slot), i + d = n → stp bs i = r → lv_has ls 3 [(2, .int (iZ (i))), (1, .int (iZ ((r : Int) - 1))), (0, .ref a)] → G D s0 p l e ({ frames := 2, cells := 0, slots := 0, locals := 51 } : Room) s m ([.ref a] : List Value).toArray below meth c h 0 0 (MQ below (gQ D s0 (fun v h' => some (.int (iZ ((stp bs n : Int) - 1))) = v ∧ h = h')) ([.ref a] : List Value).toArray s 0 0 (fun q => s0.heap.size ≤ q)) (F0 m 4 ls []) := by
    intro d
    induction d with
    | zero =>
      intro i r ls hi er hl
      have hr := stp_le bs i
      refine g_1 (fun w => lv_iload_n X.1 X.2.1 d_MD_steepest_4 rfl (lv_at hl 0 rfl) w) ?_
      refine g_1 (fun w => lv_aload_n X.1 X.2.1 d_MD_steepest_5 rfl (lv_at hl 2 rfl) w) ?_
      refine g_get X (ci := 4) rfl f0 1 (by decide) ⟨rfl, rfl⟩ tw_503 (Or.inl rfl) rfl d_MD_steepest_6 ?_
      refine g_icmp_ge (tgt := 45) X (by first | exact ⟨by omega, by omega⟩ | (split <;> exact ⟨by omega, by omega⟩) | exact cmpZ_ok _ _ | exact mul_ok (by omega) (by omega) (by omega) (by omega)) (by first | exact ⟨by omega, by omega⟩ | (split <;> exact ⟨by omega, by omega⟩) | exact cmpZ_ok _ _ | exact mul_ok (by omega) (by omega) (by omega) (by omega)) d_MD_steepest_9 (by decide) (fun c9 => ?_) (fun c9 => ?_)
      · refine g_1 (fun w => lv_iload_n X.1 X.2.1 d_MD_steepest_45 rfl (lv_at hl 1 rfl) w) ?_
        exact g_iret X (⟨g_ei (by rw [show n = i by omega, er]), rfl⟩) (by decide) (by decide) d_MD_steepest_46
      · exfalso
        omega
    | succ d ih =>
      intro i r ls hi er hl
      have hr := stp_le bs i
      refine g_1 (fun w => lv_iload_n X.1 X.2.1 d_MD_steepest_4 rfl (lv_at hl 0 rfl) w) ?_
      refine g_1 (fun w => lv_aload_n X.1 X.2.1 d_MD_steepest_5 rfl (lv_at hl 2 rfl) w) ?_
      refine g_get X (ci := 4) rfl f0 1 (by decide) ⟨rfl, rfl⟩ tw_503 (Or.inl rfl) rfl d_MD_steepest_6 ?_
      refine g_icmp_ge (tgt := 45) X (by first | exact (cV_ok hc (by omega) (hw i (by omega))).1 | exact ⟨by omega, by omega⟩ | (split <;> exact ⟨by omega, by omega⟩) | exact cmpZ_ok _ _ | exact mul_ok (by omega) (by omega) (by omega) (by omega)) (by first | exact (cV_ok hc (by omega) (hw i (by omega))).1 | exact ⟨by omega, by omega⟩ | (split <;> exact ⟨by omega, by omega⟩) | exact cmpZ_ok _ _ | exact mul_ok (by omega) (by omega) (by omega) (by omega)) d_MD_steepest_9 (by decide) (fun c9 => ?_) (fun c9 => ?_)
      · exfalso
        omega
      · refine g_1 (fun w => lv_aload_n X.1 X.2.1 d_MD_steepest_12 rfl (lv_at hl 2 rfl) w) ?_
        refine g_get X (ci := 4) rfl f0 14 (by decide) ⟨rfl, rfl⟩ tw_516 (Or.inl rfl) rfl d_MD_steepest_13 ?_
        refine g_1 (fun w => lv_iload_n X.1 X.2.1 d_MD_steepest_16 rfl (lv_at hl 0 rfl) w) ?_
        refine g_ild X f14 (i) (rfl) (by omega) (by omega) d_MD_steepest_17 ?_
        refine g_if_ge (tgt := 24) X (by first | exact (cV_ok hc (by omega) (hw i (by omega))).1 | exact ⟨by omega, by omega⟩ | (split <;> exact ⟨by omega, by omega⟩) | exact cmpZ_ok _ _ | exact mul_ok (by omega) (by omega) (by omega) (by omega)) d_MD_steepest_18 (by decide) (fun c18 => ?_) (fun c18 => ?_)
        · have ti := cV_has hc (by omega) c18
          refine g_1 (fun w => lv_iload_n X.1 X.2.1 d_MD_steepest_24 rfl (lv_at hl 1 rfl) w) ?_
          refine g_if_lt (tgt := 37) X (by first | exact (cV_ok hc (by omega) (hw i (by omega))).1 | exact ⟨by omega, by omega⟩ | (split <;> exact ⟨by omega, by omega⟩) | exact cmpZ_ok _ _ | exact mul_ok (by omega) (by omega) (by omega) (by omega)) d_MD_steepest_25 (by decide) (fun c25 => ?_) (fun c25 => ?_)
          · refine g_1 (fun w => lv_iload_n X.1 X.2.1 d_MD_steepest_37 rfl (lv_at hl 0 rfl) w) ?_
            refine g_s (fun kk => lv_istore_n (lv' := [(1, .int (iZ (i))), (2, .int (iZ (i))), (0, .ref a)]) X.1 X.2.1 d_MD_steepest_38 rfl hl (by decide) rfl kk) (fun ls hl => ?_)
            refine g_s (fun kk => lv_iinc (v := iZ (i + 1)) (lv' := [(2, .int (iZ (i + 1))), (1, .int (iZ (i))), (0, .ref a)]) X.1 X.2.1 d_MD_steepest_39 hl (k := 1) rfl (iZ_add _ _) (by decide) rfl kk) (fun ls hl => ?_)
            refine g_goto (tgt := 4) X d_MD_steepest_42 (by decide) ?_
            have e9 : stp bs (i + 1) = i + 1 := stp_t ti (by first | exact Or.inl (by omega) | exact Or.inr (by rw [er]; exact cmpZ_gt.mp c34))
            have hl := lv_sub hl [0, 1, 2] rfl
            have hl : lv_has ls 3 [(2, .int (iZ ((i + 1 : Nat) : Int))), (1, .int (iZ (((i + 1 : Nat) : Int) - 1))), (0, .ref a)] := by rw [show (((i + 1 : Nat) : Int) - 1) = i by omega]; exact hl
            exact ih (i + 1) (i + 1) ls (by omega) e9 hl
          · obtain ⟨ri, rfl⟩ : ∃ ri, r = ri + 1 := ⟨r - 1, by omega⟩
            have hl : lv_has ls 3 [(2, .int (iZ (i))), (1, .int (iZ (ri))), (0, .ref a)] := by rw [show ((ri : Nat) : Int) = ((ri + 1 : Nat) : Int) - 1 by omega]; exact hl
            have tri : hN (bs ri) := by have z := stp_has bs i (by omega); rw [er] at z; exact z
            refine g_1 (fun w => lv_aload_n X.1 X.2.1 d_MD_steepest_28 rfl (lv_at hl 2 rfl) w) ?_
            refine g_1 (fun w => lv_iload_n X.1 X.2.1 d_MD_steepest_29 rfl (lv_at hl 0 rfl) w) ?_
            refine g_1 (fun w => lv_iload_n X.1 X.2.1 d_MD_steepest_30 rfl (lv_at hl 1 rfl) w) ?_
            refine g_callV (na := 2) X (c_MD_against B0 hm hv hw hc i ri (by omega) (by omega) ti tri) rfl f0 rfl ⟨⟨tw_617, tw_5⟩, ⟨by decide, by decide, by decide +kernel⟩, by decide, by decide⟩ tw_614 tw_616 ts_MD_against rfl hl.1 (Nat.le_of_ble_eq_true rfl) ⟨by decide, by decide⟩ d_MD_steepest_31 (fun v h' hp => ?_)
            obtain ⟨rfl, rfl⟩ := hp
            refine g_widen (k' := 0) (n' := 0) (by decide) (by decide) ?_
            show G D s0 p l e _ s m _ below meth c h _ _ _ (F0 m 34 ls [.int (iZ (cmpZ (nG (bs i) * nB (bs ri)) (nG (bs ri) * nB (bs i))))])
            refine g_if_le (tgt := 39) X (cmpZ_ok _ _) d_MD_steepest_34 (by decide) (fun c34 => ?_) (fun c34 => ?_)
            · refine g_s (fun kk => lv_iinc (v := iZ (i + 1)) (lv' := [(2, .int (iZ (i + 1))), (1, .int (iZ (ri))), (0, .ref a)]) X.1 X.2.1 d_MD_steepest_39 hl (k := 0) rfl (iZ_add _ _) (by decide) rfl kk) (fun ls hl => ?_)
              refine g_goto (tgt := 4) X d_MD_steepest_42 (by decide) ?_
              have e9 : stp bs (i + 1) = ri + 1 := (stp_f (fun w => by
                rcases w.2 with y | y
                · omega
                · rw [er] at y
                  have x := cmpZ_gt.mpr y
                  exact absurd (show 0 < cmpZ (nG (bs i) * nB (bs ri)) (nG (bs ri) * nB (bs i)) from x) (by omega))).trans er
              have hl := lv_sub hl [0, 1, 2] rfl
              have hl : lv_has ls 3 [(2, .int (iZ ((i + 1 : Nat) : Int))), (1, .int (iZ (((ri + 1 : Nat) : Int) - 1))), (0, .ref a)] := by rw [show (((ri + 1 : Nat) : Int) - 1) = ri by omega]; exact hl
              exact ih (i + 1) (ri + 1) ls (by omega) e9 hl
            · refine g_1 (fun w => lv_iload_n X.1 X.2.1 d_MD_steepest_37 rfl (lv_at hl 0 rfl) w) ?_
              refine g_s (fun kk => lv_istore_n (lv' := [(1, .int (iZ (i))), (2, .int (iZ (i))), (0, .ref a)]) X.1 X.2.1 d_MD_steepest_38 rfl hl (by decide) rfl kk) (fun ls hl => ?_)
              refine g_s (fun kk => lv_iinc (v := iZ (i + 1)) (lv' := [(2, .int (iZ (i + 1))), (1, .int (iZ (i))), (0, .ref a)]) X.1 X.2.1 d_MD_steepest_39 hl (k := 1) rfl (iZ_add _ _) (by decide) rfl kk) (fun ls hl => ?_)
              refine g_goto (tgt := 4) X d_MD_steepest_42 (by decide) ?_
              have e9 : stp bs (i + 1) = i + 1 := stp_t ti (by first | exact Or.inl (by omega) | exact Or.inr (by rw [er]; exact cmpZ_gt.mp c34))
              have hl := lv_sub hl [0, 1, 2] rfl
              have hl : lv_has ls 3 [(2, .int (iZ ((i + 1 : Nat) : Int))), (1, .int (iZ (((i + 1 : Nat) : Int) - 1))), (0, .ref a)] := by rw [show (((i + 1 : Nat) : Int) - 1) = i by omega]; exact hl
              exact ih (i + 1) (i + 1) ls (by omega) e9 hl
        · refine g_goto (tgt := 39) X d_MD_steepest_21 (by decide) ?_
          refine g_s (fun kk => lv_iinc (v := iZ (i + 1)) (lv' := [(2, .int (iZ (i + 1))), (1, .int (iZ ((r : Int) - 1))), (0, .ref a)]) X.1 X.2.1 d_MD_steepest_39 hl (k := 0) rfl (iZ_add _ _) (by decide) rfl kk) (fun ls hl => ?_)
          refine g_goto (tgt := 4) X d_MD_steepest_42 (by decide) ?_
          have e9 : stp bs (i + 1) = r := (stp_f (fun w => cV_hasn hc (by omega) (by omega) w.1)).trans er
          exact ih (i + 1) r ls (by omega) e9 (lv_sub hl [0, 1, 2] rfl)
  refine g_1 (fun w => lv_iconst (v := iZ (-1)) X.1 X.2.1 d_MD_steepest_0 rfl w) ?_
  refine g_s (fun kk => lv_istore_n (lv' := [(1, .int (iZ ((-1)))), (0, .ref a)]) X.1 X.2.1 d_MD_steepest_1 rfl hl (by decide) rfl kk) (fun ls hl => ?_)
  refine g_1 (fun w => lv_iconst (v := iZ 0) X.1 X.2.1 d_MD_steepest_2 rfl w) ?_
  refine g_s (fun kk => lv_istore_n (lv' := [(2, .int (iZ (0))), (1, .int (iZ ((-1)))), (0, .ref a)]) X.1 X.2.1 d_MD_steepest_3 rfl hl (by decide) rfl kk) (fun ls hl => ?_)
  exact loop n 0 0 ls (by omega) rfl (lv_sub hl [0, 1, 2] rfl)

set_option maxHeartbeats 4000000 in
set_option maxRecDepth 100000 in
theorem c_MD_sumOf {D : va_G} {s0 : State} {l : Launch} {h : gH} (B0 : gB D s0) {a n : Nat} {M : Mdl} {bs : Nat → Blk} (hm : isMD D h a M) (hv : mV M n bs) (hw : ∀ b, b < n → wfC (bs b)) (hc : cV M n bs) : gMet D s0 l y_MD_sumOf b_MD_sumOf 3 (some .int) ({ frames := 1, cells := 0, slots := 0, locals := 23 } : Room) [.ref a] h (fun v h' => some (.int (iZ (totB bs n))) = v ∧ h = h') := by
  obtain ⟨p3, p4, p6, p7, p9, p10, p11, p12, p13, p14, f0, f3, f4, f6, f7, f9, f10, f11, f12, f13, f14⟩ := id hm
  obtain ⟨v1, v2, v3, v4, v5⟩ := id hv
  refine g_enter B0 (plainFor_of_name (by decide)) (Nat.le_of_ble_eq_true rfl) (fun p e s m below meth c ls X hnm hl => ?_)
  have hl : lv_has ls 3 [(0, .ref a)] := hl
  have loop : ∀ (d i : Nat) (ls : Array Slot), i + d = n → lv_has ls 3 [(2, .int (iZ (i))), (1, .int (iZ (totB bs i))), (0, .ref a)] → G D s0 p l e ({ frames := 1, cells := 0, slots := 0, locals := 23 } : Room) s m ([.ref a] : List Value).toArray below meth c h 0 0 (MQ below (gQ D s0 (fun v h' => some (.int (iZ (totB bs n))) = v ∧ h = h')) ([.ref a] : List Value).toArray s 0 0 (fun q => s0.heap.size ≤ q)) (F0 m 4 ls []) := by
    intro d
    induction d with
    | zero =>
      intro i ls hi hl
      refine g_1 (fun w => lv_iload_n X.1 X.2.1 d_MD_sumOf_4 rfl (lv_at hl 0 rfl) w) ?_
      refine g_1 (fun w => lv_aload_n X.1 X.2.1 d_MD_sumOf_5 rfl (lv_at hl 2 rfl) w) ?_
      refine g_get X (ci := 4) rfl f0 1 (by decide) ⟨rfl, rfl⟩ tw_503 (Or.inl rfl) rfl d_MD_sumOf_6 ?_
      refine g_icmp_ge (tgt := 33) X (by first | exact ⟨by omega, by omega⟩ | (split <;> exact ⟨by omega, by omega⟩) | exact cmpZ_ok _ _ | exact mul_ok (by omega) (by omega) (by omega) (by omega)) (by first | exact ⟨by omega, by omega⟩ | (split <;> exact ⟨by omega, by omega⟩) | exact cmpZ_ok _ _ | exact mul_ok (by omega) (by omega) (by omega) (by omega)) d_MD_sumOf_9 (by decide) (fun c9 => ?_) (fun c9 => ?_)
      · refine g_1 (fun w => lv_iload_n X.1 X.2.1 d_MD_sumOf_33 rfl (lv_at hl 1 rfl) w) ?_
        exact g_iret X (⟨g_ei (by rw [show n = i by omega]), rfl⟩) (by decide) (by decide) d_MD_sumOf_34
      · exfalso
        omega
    | succ d ih =>
      intro i ls hi hl
      have hw1 := hw i (by omega)
      have k4 := hw1.1.1.2.2.2.1
      refine g_1 (fun w => lv_iload_n X.1 X.2.1 d_MD_sumOf_4 rfl (lv_at hl 0 rfl) w) ?_
      refine g_1 (fun w => lv_aload_n X.1 X.2.1 d_MD_sumOf_5 rfl (lv_at hl 2 rfl) w) ?_
      refine g_get X (ci := 4) rfl f0 1 (by decide) ⟨rfl, rfl⟩ tw_503 (Or.inl rfl) rfl d_MD_sumOf_6 ?_
      refine g_icmp_ge (tgt := 33) X (by first | exact ⟨by omega, by omega⟩ | (split <;> exact ⟨by omega, by omega⟩) | exact cmpZ_ok _ _ | exact mul_ok (by omega) (by omega) (by omega) (by omega)) (by first | exact ⟨by omega, by omega⟩ | (split <;> exact ⟨by omega, by omega⟩) | exact cmpZ_ok _ _ | exact mul_ok (by omega) (by omega) (by omega) (by omega)) d_MD_sumOf_9 (by decide) (fun c9 => ?_) (fun c9 => ?_)
      · exfalso
        omega
      · refine g_1 (fun w => lv_iload_n X.1 X.2.1 d_MD_sumOf_12 rfl (lv_at hl 1 rfl) w) ?_
        refine g_1 (fun w => lv_aload_n X.1 X.2.1 d_MD_sumOf_13 rfl (lv_at hl 2 rfl) w) ?_
        refine g_1 (fun w => lv_iload_n X.1 X.2.1 d_MD_sumOf_14 rfl (lv_at hl 0 rfl) w) ?_
        refine g_1 (fun w => lv_iconst (v := iZ 0) X.1 X.2.1 d_MD_sumOf_15 rfl w) ?_
        refine g_1 (fun w => lv_aload_n X.1 X.2.1 d_MD_sumOf_16 rfl (lv_at hl 2 rfl) w) ?_
        refine g_get X (ci := 4) rfl f0 13 (by decide) ⟨rfl, rfl⟩ tw_515 (Or.inl rfl) rfl d_MD_sumOf_17 ?_
        refine g_1 (fun w => lv_iload_n X.1 X.2.1 d_MD_sumOf_20 rfl (lv_at hl 0 rfl) w) ?_
        refine g_ild X f13 (i) (rfl) (by omega) (by omega) d_MD_sumOf_21 ?_
        refine g_ti (congrArg iZ (show (aK M i : Int) = bL (bs i) from (hc i (by omega)).1)) ?_
        refine g_callV (na := 3) X (c_MD_bytesOf B0 hm hv hw i 0 (bL (bs i)) (by omega) (by omega) (by omega)) rfl f0 rfl ⟨⟨tw_593, tw_5⟩, ⟨by decide, by decide, by decide +kernel⟩, by decide, by decide⟩ tw_590 tw_592 ts_MD_bytesOf rfl hl.1 (Nat.le_of_ble_eq_true rfl) ⟨by decide, by decide⟩ d_MD_sumOf_22 (fun v h' hp => ?_)
        obtain ⟨rfl, rfl⟩ := hp
        refine g_widen (k' := 0) (n' := 0) (by decide) (by decide) ?_
        show G D s0 p l e _ s m _ below meth c h _ _ _ (F0 m 25 ls [.int (iZ (bB (bs i) (bL (bs i)) - bB (bs i) 0)), .int (iZ (totB bs i))])
        refine g_iadd X d_MD_sumOf_25 ?_
        refine g_s (fun kk => lv_istore_n (lv' := [(1, .int (iZ (totB bs i + (bB (bs i) (bL (bs i)) - bB (bs i) 0)))), (2, .int (iZ (i))), (0, .ref a)]) X.1 X.2.1 d_MD_sumOf_26 rfl hl (by decide) rfl kk) (fun ls hl => ?_)
        refine g_s (fun kk => lv_iinc (v := iZ (i + 1)) (lv' := [(2, .int (iZ (i + 1))), (1, .int (iZ (totB bs i + (bB (bs i) (bL (bs i)) - bB (bs i) 0)))), (0, .ref a)]) X.1 X.2.1 d_MD_sumOf_27 hl (k := 1) rfl (iZ_add _ _) (by decide) rfl kk) (fun ls hl => ?_)
        refine g_goto (tgt := 4) X d_MD_sumOf_30 (by decide) ?_
        have e9 : totB bs i + (bB (bs i) (bL (bs i)) - bB (bs i) 0) = totB bs (i + 1) := by
          show _ = totB bs i + bB (bs i) (bL (bs i))
          rw [hw1.2.2.2.2.1]
          omega
        have hl := lv_sub hl [0, 1, 2] rfl
        rw [e9] at hl
        exact ih (i + 1) ls (by omega) hl
  refine g_1 (fun w => lv_iconst (v := iZ 0) X.1 X.2.1 d_MD_sumOf_0 rfl w) ?_
  refine g_s (fun kk => lv_istore_n (lv' := [(1, .int (iZ (0))), (0, .ref a)]) X.1 X.2.1 d_MD_sumOf_1 rfl hl (by decide) rfl kk) (fun ls hl => ?_)
  refine g_1 (fun w => lv_iconst (v := iZ 0) X.1 X.2.1 d_MD_sumOf_2 rfl w) ?_
  refine g_s (fun kk => lv_istore_n (lv' := [(2, .int (iZ (0))), (1, .int (iZ (0))), (0, .ref a)]) X.1 X.2.1 d_MD_sumOf_3 rfl hl (by decide) rfl kk) (fun ls hl => ?_)
  exact loop n 0 ls (by omega) (lv_sub hl [0, 1, 2] rfl)

set_option maxHeartbeats 4000000 in
set_option maxRecDepth 100000 in
theorem c_MD_costOf {D : va_G} {s0 : State} {l : Launch} {h : gH} (B0 : gB D s0) {a n : Nat} {M : Mdl} {bs : Nat → Blk} (hm : isMD D h a M) (hv : mV M n bs) (hw : ∀ b, b < n → wfC (bs b)) (hc : cV M n bs) (y : Nat) (hy : y < n) (ty : hN (bs y)) : gMet D s0 l y_MD_costOf b_MD_costOf 5 (some .long) ({ frames := 2, cells := 0, slots := 0, locals := 51 } : Room) [.ref a, .int (iZ (y))] h (fun v h' => some (.long (lZ (cst bs (nG (bs y)) (nB (bs y)) n))) = v ∧ h = h') := by
  obtain ⟨p3, p4, p6, p7, p9, p10, p11, p12, p13, p14, f0, f3, f4, f6, f7, f9, f10, f11, f12, f13, f14⟩ := id hm
  obtain ⟨v1, v2, v3, v4, v5⟩ := id hv
  refine g_enter B0 (plainFor_of_name (by decide)) (Nat.le_of_ble_eq_true rfl) (fun p e s m below meth c ls X hnm hl => ?_)
  have hl : lv_has ls 5 [(0, .ref a), (1, .int (iZ (y)))] := hl
  have loop : ∀ (d i : Nat) (ls : Array Slot), i + d = n → lv_has ls 5 [(4, .int (iZ (i))), (2, .long (lZ (cst bs (nG (bs y)) (nB (bs y)) i))), (1, .int (iZ (y))), (0, .ref a)] → G D s0 p l e ({ frames := 2, cells := 0, slots := 0, locals := 51 } : Room) s m ([.ref a, .int (iZ (y))] : List Value).toArray below meth c h 0 0 (MQ below (gQ D s0 (fun v h' => some (.long (lZ (cst bs (nG (bs y)) (nB (bs y)) n))) = v ∧ h = h')) ([.ref a, .int (iZ (y))] : List Value).toArray s 0 0 (fun q => s0.heap.size ≤ q)) (F0 m 5 ls []) := by
    intro d
    induction d with
    | zero =>
      intro i ls hi hl
      refine g_1 (fun w => lv_iload X.1 X.2.1 d_MD_costOf_5 (lv_at hl 0 rfl) w) ?_
      refine g_1 (fun w => lv_aload_n X.1 X.2.1 d_MD_costOf_7 rfl (lv_at hl 3 rfl) w) ?_
      refine g_get X (ci := 4) rfl f0 1 (by decide) ⟨rfl, rfl⟩ tw_503 (Or.inl rfl) rfl d_MD_costOf_8 ?_
      refine g_icmp_ge (tgt := 64) X (by first | exact ⟨by omega, by omega⟩ | (split <;> exact ⟨by omega, by omega⟩) | exact cmpZ_ok _ _ | exact mul_ok (by omega) (by omega) (by omega) (by omega)) (by first | exact ⟨by omega, by omega⟩ | (split <;> exact ⟨by omega, by omega⟩) | exact cmpZ_ok _ _ | exact mul_ok (by omega) (by omega) (by omega) (by omega)) d_MD_costOf_11 (by decide) (fun c11 => ?_) (fun c11 => ?_)
      · refine g_1 (fun w => lv_lload_n X.1 X.2.1 d_MD_costOf_64 rfl (lv_at hl 1 rfl) w) ?_
        exact g_lret X (⟨g_el (by rw [show n = i by omega]), rfl⟩) (by decide) (by decide) d_MD_costOf_65
      · exfalso
        omega
    | succ d ih =>
      intro i ls hi hl
      refine g_1 (fun w => lv_iload X.1 X.2.1 d_MD_costOf_5 (lv_at hl 0 rfl) w) ?_
      refine g_1 (fun w => lv_aload_n X.1 X.2.1 d_MD_costOf_7 rfl (lv_at hl 3 rfl) w) ?_
      refine g_get X (ci := 4) rfl f0 1 (by decide) ⟨rfl, rfl⟩ tw_503 (Or.inl rfl) rfl d_MD_costOf_8 ?_
      refine g_icmp_ge (tgt := 64) X (by first | exact (cV_ok hc (by omega) (hw i (by omega))).1 | exact ⟨by omega, by omega⟩ | (split <;> exact ⟨by omega, by omega⟩) | exact cmpZ_ok _ _ | exact mul_ok (by omega) (by omega) (by omega) (by omega)) (by first | exact (cV_ok hc (by omega) (hw i (by omega))).1 | exact ⟨by omega, by omega⟩ | (split <;> exact ⟨by omega, by omega⟩) | exact cmpZ_ok _ _ | exact mul_ok (by omega) (by omega) (by omega) (by omega)) d_MD_costOf_11 (by decide) (fun c11 => ?_) (fun c11 => ?_)
      · exfalso
        omega
      · refine g_1 (fun w => lv_aload_n X.1 X.2.1 d_MD_costOf_14 rfl (lv_at hl 3 rfl) w) ?_
        refine g_get X (ci := 4) rfl f0 14 (by decide) ⟨rfl, rfl⟩ tw_516 (Or.inl rfl) rfl d_MD_costOf_15 ?_
        refine g_1 (fun w => lv_iload X.1 X.2.1 d_MD_costOf_18 (lv_at hl 0 rfl) w) ?_
        refine g_ild X f14 (i) (rfl) (by omega) (by omega) d_MD_costOf_20 ?_
        refine g_if_lt (tgt := 58) X (by first | exact (cV_ok hc (by omega) (hw i (by omega))).1 | exact ⟨by omega, by omega⟩ | (split <;> exact ⟨by omega, by omega⟩) | exact cmpZ_ok _ _ | exact mul_ok (by omega) (by omega) (by omega) (by omega)) d_MD_costOf_21 (by decide) (fun c21 => ?_) (fun c21 => ?_)
        · refine g_s (fun kk => lv_iinc (v := iZ (i + 1)) (lv' := [(4, .int (iZ (i + 1))), (2, .long (lZ (cst bs (nG (bs y)) (nB (bs y)) i))), (1, .int (iZ (y))), (0, .ref a)]) X.1 X.2.1 d_MD_costOf_58 hl (k := 0) rfl (iZ_add _ _) (by decide) rfl kk) (fun ls hl => ?_)
          refine g_goto (tgt := 5) X d_MD_costOf_61 (by decide) ?_
          have e9 := cst_f (bs := bs) (sg := nG (bs y)) (sb := nB (bs y)) (i := i) (fun w => cV_hasn hc (by omega) (by omega) w.1)
          have hl := lv_sub hl [0, 1, 2, 3] rfl
          have hl : lv_has ls 5 [(4, .int (iZ ((i + 1 : Nat) : Int))), (2, .long (lZ (cst bs (nG (bs y)) (nB (bs y)) (i + 1)))), (1, .int (iZ y)), (0, .ref a)] := by rw [e9]; exact hl
          exact ih (i + 1) ls (by omega) hl
        · have ti := cV_has hc (by omega) c21
          have hi1 : i < n := by omega
          obtain ⟨g1i, g2i⟩ := hc i hi1
          have hwi := hw i hi1
          have nbi := nB_bd hwi.1
          have npi := hwi.up (s := bT (bs i)) ti
          have n0i := nbi.1 ti
          have z1i := hwi.1.2.2.1 _ ti
          have e1i : aK M i = ((bC (bs i) (bT (bs i)) : Nat) : Int) := by rw [g1i, hwi.1.2.2.2 ti]
          have e2i : aX M i = ((bC (bs i) (bT (bs i) + 1) : Nat) : Int) := by rw [g2i, if_pos ti]
          have ngi : 0 < nG (bs i) := by show 0 < bG (bs i) (bC (bs i) (bT (bs i) + 1)) - bG (bs i) (bC (bs i) (bT (bs i))); omega
          refine g_1 (fun w => lv_aload_n X.1 X.2.1 d_MD_costOf_24 rfl (lv_at hl 3 rfl) w) ?_
          refine g_1 (fun w => lv_iload X.1 X.2.1 d_MD_costOf_25 (lv_at hl 0 rfl) w) ?_
          refine g_1 (fun w => lv_iload_n X.1 X.2.1 d_MD_costOf_27 rfl (lv_at hl 2 rfl) w) ?_
          refine g_callV (na := 2) X (c_MD_against B0 hm hv hw hc i y (by omega) (by omega) ti ty) rfl f0 rfl ⟨⟨tw_617, tw_5⟩, ⟨by decide, by decide, by decide +kernel⟩, by decide, by decide⟩ tw_614 tw_616 ts_MD_against rfl hl.1 (Nat.le_of_ble_eq_true rfl) ⟨by decide, by decide⟩ d_MD_costOf_28 (fun v h' hp => ?_)
          obtain ⟨rfl, rfl⟩ := hp
          refine g_widen (k' := 0) (n' := 0) (by decide) (by decide) ?_
          show G D s0 p l e _ s m _ below meth c h _ _ _ (F0 m 31 ls [.int (iZ (cmpZ (nG (bs i) * nB (bs y)) (nG (bs y) * nB (bs i))))])
          refine g_if_ne (tgt := 58) X (cmpZ_ok _ _) d_MD_costOf_31 (by decide) (fun c31 => ?_) (fun c31 => ?_)
          · refine g_s (fun kk => lv_iinc (v := iZ (i + 1)) (lv' := [(4, .int (iZ (i + 1))), (2, .long (lZ (cst bs (nG (bs y)) (nB (bs y)) i))), (1, .int (iZ (y))), (0, .ref a)]) X.1 X.2.1 d_MD_costOf_58 hl (k := 0) rfl (iZ_add _ _) (by decide) rfl kk) (fun ls hl => ?_)
            refine g_goto (tgt := 5) X d_MD_costOf_61 (by decide) ?_
            have e9 := cst_f (bs := bs) (sg := nG (bs y)) (sb := nB (bs y)) (i := i) (fun w => c31 w.2)
            have hl := lv_sub hl [0, 1, 2, 3] rfl
            have hl : lv_has ls 5 [(4, .int (iZ ((i + 1 : Nat) : Int))), (2, .long (lZ (cst bs (nG (bs y)) (nB (bs y)) (i + 1)))), (1, .int (iZ y)), (0, .ref a)] := by rw [e9]; exact hl
            exact ih (i + 1) ls (by omega) hl
          · refine g_1 (fun w => lv_lload_n X.1 X.2.1 d_MD_costOf_34 rfl (lv_at hl 1 rfl) w) ?_
            refine g_1 (fun w => lv_aload_n X.1 X.2.1 d_MD_costOf_35 rfl (lv_at hl 3 rfl) w) ?_
            refine g_1 (fun w => lv_iload X.1 X.2.1 d_MD_costOf_36 (lv_at hl 0 rfl) w) ?_
            refine g_1 (fun w => lv_aload_n X.1 X.2.1 d_MD_costOf_38 rfl (lv_at hl 3 rfl) w) ?_
            refine g_get X (ci := 4) rfl f0 13 (by decide) ⟨rfl, rfl⟩ tw_515 (Or.inl rfl) rfl d_MD_costOf_39 ?_
            refine g_1 (fun w => lv_iload X.1 X.2.1 d_MD_costOf_42 (lv_at hl 0 rfl) w) ?_
            refine g_ild X f13 (i) (rfl) (by omega) (by omega) d_MD_costOf_44 ?_
            refine g_ti (congrArg iZ (show (aK M i : Int) = bC (bs i) (bT (bs i)) from e1i)) ?_
            refine g_1 (fun w => lv_aload_n X.1 X.2.1 d_MD_costOf_45 rfl (lv_at hl 3 rfl) w) ?_
            refine g_get X (ci := 4) rfl f0 14 (by decide) ⟨rfl, rfl⟩ tw_516 (Or.inl rfl) rfl d_MD_costOf_46 ?_
            refine g_1 (fun w => lv_iload X.1 X.2.1 d_MD_costOf_49 (lv_at hl 0 rfl) w) ?_
            refine g_ild X f14 (i) (rfl) (by omega) (by omega) d_MD_costOf_51 ?_
            refine g_ti (congrArg iZ (show (aX M i : Int) = bC (bs i) (bT (bs i) + 1) from e2i)) ?_
            refine g_callV (na := 3) X (c_MD_bytesOf B0 hm hv hw i (bC (bs i) (bT (bs i))) (bC (bs i) (bT (bs i) + 1)) (by omega) (by omega) (by omega)) rfl f0 rfl ⟨⟨tw_593, tw_5⟩, ⟨by decide, by decide, by decide +kernel⟩, by decide, by decide⟩ tw_590 tw_592 ts_MD_bytesOf rfl hl.1 (Nat.le_of_ble_eq_true rfl) ⟨by decide, by decide⟩ d_MD_costOf_52 (fun v h' hp => ?_)
            obtain ⟨rfl, rfl⟩ := hp
            refine g_widen (k' := 0) (n' := 0) (by decide) (by decide) ?_
            show G D s0 p l e _ s m _ below meth c h _ _ _ (F0 m 55 ls [.int (iZ (nB (bs i))), .long (lZ (cst bs (nG (bs y)) (nB (bs y)) i))])
            refine g_i2l X (by first | exact (cV_ok hc (by omega) (hw i (by omega))).1 | exact ⟨by omega, by omega⟩ | (split <;> exact ⟨by omega, by omega⟩) | exact cmpZ_ok _ _ | exact mul_ok (by omega) (by omega) (by omega) (by omega)) d_MD_costOf_55 ?_
            refine g_ladd X d_MD_costOf_56 ?_
            refine g_s (fun kk => lv_lstore_n (lv' := [(2, .long (lZ (cst bs (nG (bs y)) (nB (bs y)) i + (nB (bs i))))), (4, .int (iZ (i))), (1, .int (iZ (y))), (0, .ref a)]) X.1 X.2.1 d_MD_costOf_57 rfl hl (by decide) rfl kk) (fun ls hl => ?_)
            refine g_s (fun kk => lv_iinc (v := iZ (i + 1)) (lv' := [(4, .int (iZ (i + 1))), (2, .long (lZ (cst bs (nG (bs y)) (nB (bs y)) i + (nB (bs i))))), (1, .int (iZ (y))), (0, .ref a)]) X.1 X.2.1 d_MD_costOf_58 hl (k := 1) rfl (iZ_add _ _) (by decide) rfl kk) (fun ls hl => ?_)
            refine g_goto (tgt := 5) X d_MD_costOf_61 (by decide) ?_
            have e9 := cst_t (bs := bs) (sg := nG (bs y)) (sb := nB (bs y)) (i := i) ⟨ti, c31⟩
            have hl := lv_sub hl [0, 1, 2, 3] rfl
            have hl : lv_has ls 5 [(4, .int (iZ ((i + 1 : Nat) : Int))), (2, .long (lZ (cst bs (nG (bs y)) (nB (bs y)) (i + 1)))), (1, .int (iZ y)), (0, .ref a)] := by rw [e9]; exact hl
            exact ih (i + 1) ls (by omega) hl
  refine g_1 (fun w => lv_lconst (v := lZ 0) X.1 X.2.1 d_MD_costOf_0 (by decide) w) ?_
  refine g_s (fun kk => lv_lstore_n (lv' := [(2, .long (lZ (0))), (0, .ref a), (1, .int (iZ (y)))]) X.1 X.2.1 d_MD_costOf_1 rfl hl (by decide) rfl kk) (fun ls hl => ?_)
  refine g_1 (fun w => lv_iconst (v := iZ 0) X.1 X.2.1 d_MD_costOf_2 rfl w) ?_
  refine g_s (fun kk => lv_istore (lv' := [(4, .int (iZ (0))), (2, .long (lZ (0))), (0, .ref a), (1, .int (iZ (y)))]) X.1 X.2.1 d_MD_costOf_3 hl (by decide) rfl kk) (fun ls hl => ?_)
  exact loop n 0 ls (by omega) (lv_sub hl [0, 1, 3, 2] rfl)
