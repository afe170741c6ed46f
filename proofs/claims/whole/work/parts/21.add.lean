set_option maxHeartbeats 4000000 in
set_option maxRecDepth 100000 in
theorem c_AL_add3 {D : va_G} {s0 : State} {l : Launch} {h : gH} (B0 : gB D s0) {a w e0 b : Nat} {mc : Int} {L : List Nat} (fA : h a = some ((5, w), .inr (3, [.ref e0, .int (iZ L.length), .int (iZ mc)]))) (hc : (e0 = D.1 200 ∧ L = []) ∨ ∃ (cap : Nat) (f : Nat → Option Nat), h e0 = some ((14, a), gO D cap f) ∧ 1 ≤ cap ∧ cap ≤ 1600 ∧ L.length ≤ cap ∧ ∀ j, j < L.length → f j = some (L.getD j 0)) (hL : L.length ≤ 1024) (hel : ∀ b ∈ L, g_ob h b) (hob : g_ob h b) : gMet D s0 l y_AL_add3 b_AL_add3 4 none ({ frames := 5, cells := 1, slots := 1600, locals := 127 } : Room) [.ref a, .ref b, .ref e0, .int (iZ (L.length))] h (fun v h' => none = v ∧ isAL D h' a w (L ++ [b]) ∧ kp (P_AL a) h h') := by
  refine g_enter B0 (plainFor_of_name (by decide)) (Nat.le_of_ble_eq_true rfl) (fun p e s m below meth c ls X hnm hl => ?_)
  have hl : lv_has ls 4 [(0, .ref a), (1, .ref b), (2, .ref e0), (3, .int (iZ (L.length)))] := hl
  rcases hc with ⟨rfl, hLn⟩ | ⟨cap, f, fE, hc1, hc2, hc3, hc4⟩
  · have hLl : L.length = 0 := by rw [hLn]; rfl
    refine g_1 (fun w => lv_iload_n X.1 X.2.1 d_AL_add3_0 rfl (lv_at hl 3 rfl) w) ?_
    refine g_1 (fun w => lv_aload_n X.1 X.2.1 d_AL_add3_1 rfl (lv_at hl 2 rfl) w) ?_
    refine g_alens X d_AL_add3_2 ?_
    refine g_icmp_ne (tgt := 11) X (⟨by omega, by omega⟩) (⟨by omega, by omega⟩) d_AL_add3_3 (by decide) (fun c3 => ?_) (fun c3 => ?_)
    · exfalso
      omega
    · refine g_1 (fun w => lv_aload_n X.1 X.2.1 d_AL_add3_6 rfl (lv_at hl 0 rfl) w) ?_
      refine g_callV (na := 0) X (c_AL_grow0 B0 fA (Or.inl ⟨rfl, hLn⟩) hL hel) rfl fA rfl ⟨⟨tw_230, tw_4⟩, ⟨by decide, by decide, by decide +kernel⟩, by decide, by decide⟩ tw_227 tw_229 ts_AL_grow0 rfl hl.1 (Nat.le_of_ble_eq_true rfl) ⟨by decide, by decide⟩ d_AL_add3_7 (fun v h' hp => ?_)
      obtain ⟨na, cap2, f2, rfl, qA, qN, q1, q2, q3, hk8⟩ := hp
      have hob2 := hob.kp hk8 fA
      have hk9 := kp_mo (P' := P_AL a) hk8 (fun q t z => Or.inl z)
      refine g_widen (k' := 0 + 1) (n' := 0 + 1600) (by decide) (by decide) ?_
      show G D s0 p l e _ s m _ below meth c h' _ _ _ (F0 m 10 ls [.ref na])
      refine g_s (fun kk => lv_astore_n (lv' := [(2, .ref na), (0, .ref a), (1, .ref b), (3, .int (iZ (L.length)))]) X.1 X.2.1 d_AL_add3_10 rfl hl (by decide) rfl kk) (fun ls hl => ?_)
      refine g_1 (fun w => lv_aload_n X.1 X.2.1 d_AL_add3_11 rfl (lv_at hl 0 rfl) w) ?_
      refine g_1 (fun w => lv_iload_n X.1 X.2.1 d_AL_add3_12 rfl (lv_at hl 3 rfl) w) ?_
      refine g_1 (fun w => lv_aload_n X.1 X.2.1 d_AL_add3_13 rfl (lv_at hl 2 rfl) w) ?_
      refine g_astO X qN (Nat.succ_ne_zero _) hob2 (L.length) (rfl) (by omega) (by omega) d_AL_add3_14 ?_
      obtain ⟨h_51, eh_51⟩ : ∃ z, z = g_up h' na ((14, a), gO D cap2 (va_up (f2) (L.length) (some b))) := ⟨_, rfl⟩
      refine g_h (h' := h_51) eh_51.symm ?_
      have f_52 : h_51 a = some ((5, w), .inr (3, [.ref na, .int (iZ (L.length)), .int (iZ (mc))])) := by rw [eh_51]; exact g_uk qA qN (show (5 : Nat) ≠ 14 by decide)
      have f_53 : h_51 na = some ((14, a), gO D cap2 (va_up (f2) (L.length) (some b))) := by rw [eh_51]; exact g_us
      have hk_54 := kp_up (hk9) eh_51 qN (Or.inr rfl)
      refine g_1 (fun w => lv_aload_n X.1 X.2.1 d_AL_add3_15 rfl (lv_at hl 1 rfl) w) ?_
      refine g_1 (fun w => lv_iload_n X.1 X.2.1 d_AL_add3_16 rfl (lv_at hl 3 rfl) w) ?_
      refine g_1 (fun w => lv_iconst (v := iZ 1) X.1 X.2.1 d_AL_add3_17 rfl w) ?_
      refine g_iadd X d_AL_add3_18 ?_
      refine g_put X (ci := 3) rfl f_52 (Nat.succ_ne_zero _) 1 (by decide) ⟨rfl, rfl⟩ tw_44 (Or.inl rfl) rfl rfl rfl (Nat.le_of_ble_eq_true rfl) d_AL_add3_19 ?_
      obtain ⟨h_55, eh_55⟩ : ∃ z, z = g_up h_51 a ((5, w), .inr (3, [.ref na, .int (iZ (L.length + 1)), .int (iZ (mc))])) := ⟨_, rfl⟩
      refine g_h (h' := h_55) eh_55.symm ?_
      have f_56 : h_55 a = some ((5, w), .inr (3, [.ref na, .int (iZ (L.length + 1)), .int (iZ (mc))])) := by rw [eh_55]; exact g_us
      have f_57 : h_55 na = some ((14, a), gO D cap2 (va_up (f2) (L.length) (some b))) := by rw [eh_55]; exact g_uk f_53 f_52 (show (14 : Nat) ≠ 5 by decide)
      have hk_58 := kp_up (hk_54) eh_55 f_52 (Or.inl rfl)
      exact g_vret X (⟨rfl, isAL_app f_56 f_57 q1 q2 q3, hk_58⟩) (by decide) (by decide) d_AL_add3_22
  · refine g_1 (fun w => lv_iload_n X.1 X.2.1 d_AL_add3_0 rfl (lv_at hl 3 rfl) w) ?_
    refine g_1 (fun w => lv_aload_n X.1 X.2.1 d_AL_add3_1 rfl (lv_at hl 2 rfl) w) ?_
    refine g_aleno X fE d_AL_add3_2 ?_
    refine g_icmp_ne (tgt := 11) X (⟨by omega, by omega⟩) (⟨by omega, by omega⟩) d_AL_add3_3 (by decide) (fun c3 => ?_) (fun c3 => ?_)
    · refine g_1 (fun w => lv_aload_n X.1 X.2.1 d_AL_add3_11 rfl (lv_at hl 2 rfl) w) ?_
      refine g_1 (fun w => lv_iload_n X.1 X.2.1 d_AL_add3_12 rfl (lv_at hl 3 rfl) w) ?_
      refine g_1 (fun w => lv_aload_n X.1 X.2.1 d_AL_add3_13 rfl (lv_at hl 1 rfl) w) ?_
      refine g_astO X fE (Nat.succ_ne_zero _) hob (L.length) (rfl) (by omega) (by omega) d_AL_add3_14 ?_
      obtain ⟨h_51, eh_51⟩ : ∃ z, z = g_up h e0 ((14, a), gO D cap (va_up (f) (L.length) (some b))) := ⟨_, rfl⟩
      refine g_h (h' := h_51) eh_51.symm ?_
      have f_52 : h_51 a = some ((5, w), .inr (3, [.ref e0, .int (iZ (L.length)), .int (iZ (mc))])) := by rw [eh_51]; exact g_uk fA fE (show (5 : Nat) ≠ 14 by decide)
      have f_53 : h_51 e0 = some ((14, a), gO D cap (va_up (f) (L.length) (some b))) := by rw [eh_51]; exact g_us
      have hk_54 := kp_up (kp_rf (P := P_AL a) (h := h)) eh_51 fE (Or.inr rfl)
      refine g_1 (fun w => lv_aload_n X.1 X.2.1 d_AL_add3_15 rfl (lv_at hl 0 rfl) w) ?_
      refine g_1 (fun w => lv_iload_n X.1 X.2.1 d_AL_add3_16 rfl (lv_at hl 3 rfl) w) ?_
      refine g_1 (fun w => lv_iconst (v := iZ 1) X.1 X.2.1 d_AL_add3_17 rfl w) ?_
      refine g_iadd X d_AL_add3_18 ?_
      refine g_put X (ci := 3) rfl f_52 (Nat.succ_ne_zero _) 1 (by decide) ⟨rfl, rfl⟩ tw_44 (Or.inl rfl) rfl rfl rfl (Nat.le_of_ble_eq_true rfl) d_AL_add3_19 ?_
      obtain ⟨h_55, eh_55⟩ : ∃ z, z = g_up h_51 a ((5, w), .inr (3, [.ref e0, .int (iZ (L.length + 1)), .int (iZ (mc))])) := ⟨_, rfl⟩
      refine g_h (h' := h_55) eh_55.symm ?_
      have f_56 : h_55 a = some ((5, w), .inr (3, [.ref e0, .int (iZ (L.length + 1)), .int (iZ (mc))])) := by rw [eh_55]; exact g_us
      have f_57 : h_55 e0 = some ((14, a), gO D cap (va_up (f) (L.length) (some b))) := by rw [eh_55]; exact g_uk f_53 f_52 (show (14 : Nat) ≠ 5 by decide)
      have hk_58 := kp_up (hk_54) eh_55 f_52 (Or.inl rfl)
      exact g_vret X (⟨rfl, isAL_app f_56 f_57 (by omega) hc2 hc4, hk_58⟩) (by decide) (by decide) d_AL_add3_22
    · refine g_1 (fun w => lv_aload_n X.1 X.2.1 d_AL_add3_6 rfl (lv_at hl 0 rfl) w) ?_
      refine g_callV (na := 0) X (c_AL_grow0 B0 fA (Or.inr ⟨f, by rw [show L.length = cap by omega]; exact fE, by omega, hc4⟩) hL hel) rfl fA rfl ⟨⟨tw_230, tw_4⟩, ⟨by decide, by decide, by decide +kernel⟩, by decide, by decide⟩ tw_227 tw_229 ts_AL_grow0 rfl hl.1 (Nat.le_of_ble_eq_true rfl) ⟨by decide, by decide⟩ d_AL_add3_7 (fun v h' hp => ?_)
      obtain ⟨na, cap2, f2, rfl, qA, qN, q1, q2, q3, hk8⟩ := hp
      have hob2 := hob.kp hk8 fA
      have hk9 := kp_mo (P' := P_AL a) hk8 (fun q t z => Or.inl z)
      refine g_widen (k' := 0 + 1) (n' := 0 + 1600) (by decide) (by decide) ?_
      show G D s0 p l e _ s m _ below meth c h' _ _ _ (F0 m 10 ls [.ref na])
      refine g_s (fun kk => lv_astore_n (lv' := [(2, .ref na), (0, .ref a), (1, .ref b), (3, .int (iZ (L.length)))]) X.1 X.2.1 d_AL_add3_10 rfl hl (by decide) rfl kk) (fun ls hl => ?_)
      refine g_1 (fun w => lv_aload_n X.1 X.2.1 d_AL_add3_11 rfl (lv_at hl 0 rfl) w) ?_
      refine g_1 (fun w => lv_iload_n X.1 X.2.1 d_AL_add3_12 rfl (lv_at hl 3 rfl) w) ?_
      refine g_1 (fun w => lv_aload_n X.1 X.2.1 d_AL_add3_13 rfl (lv_at hl 2 rfl) w) ?_
      refine g_astO X qN (Nat.succ_ne_zero _) hob2 (L.length) (rfl) (by omega) (by omega) d_AL_add3_14 ?_
      obtain ⟨h_51, eh_51⟩ : ∃ z, z = g_up h' na ((14, a), gO D cap2 (va_up (f2) (L.length) (some b))) := ⟨_, rfl⟩
      refine g_h (h' := h_51) eh_51.symm ?_
      have f_52 : h_51 a = some ((5, w), .inr (3, [.ref na, .int (iZ (L.length)), .int (iZ (mc))])) := by rw [eh_51]; exact g_uk qA qN (show (5 : Nat) ≠ 14 by decide)
      have f_53 : h_51 na = some ((14, a), gO D cap2 (va_up (f2) (L.length) (some b))) := by rw [eh_51]; exact g_us
      have hk_54 := kp_up (hk9) eh_51 qN (Or.inr rfl)
      refine g_1 (fun w => lv_aload_n X.1 X.2.1 d_AL_add3_15 rfl (lv_at hl 1 rfl) w) ?_
      refine g_1 (fun w => lv_iload_n X.1 X.2.1 d_AL_add3_16 rfl (lv_at hl 3 rfl) w) ?_
      refine g_1 (fun w => lv_iconst (v := iZ 1) X.1 X.2.1 d_AL_add3_17 rfl w) ?_
      refine g_iadd X d_AL_add3_18 ?_
      refine g_put X (ci := 3) rfl f_52 (Nat.succ_ne_zero _) 1 (by decide) ⟨rfl, rfl⟩ tw_44 (Or.inl rfl) rfl rfl rfl (Nat.le_of_ble_eq_true rfl) d_AL_add3_19 ?_
      obtain ⟨h_55, eh_55⟩ : ∃ z, z = g_up h_51 a ((5, w), .inr (3, [.ref na, .int (iZ (L.length + 1)), .int (iZ (mc))])) := ⟨_, rfl⟩
      refine g_h (h' := h_55) eh_55.symm ?_
      have f_56 : h_55 a = some ((5, w), .inr (3, [.ref na, .int (iZ (L.length + 1)), .int (iZ (mc))])) := by rw [eh_55]; exact g_us
      have f_57 : h_55 na = some ((14, a), gO D cap2 (va_up (f2) (L.length) (some b))) := by rw [eh_55]; exact g_uk f_53 f_52 (show (14 : Nat) ≠ 5 by decide)
      have hk_58 := kp_up (hk_54) eh_55 f_52 (Or.inl rfl)
      exact g_vret X (⟨rfl, isAL_app f_56 f_57 q1 q2 q3, hk_58⟩) (by decide) (by decide) d_AL_add3_22

set_option maxHeartbeats 4000000 in
set_option maxRecDepth 100000 in
theorem c_AL_add1 {D : va_G} {s0 : State} {l : Launch} {h : gH} (B0 : gB D s0) {a w b : Nat} {L : List Nat} (ha : isAL D h a w L) (hL : L.length ≤ 1024) (hel : ∀ b ∈ L, g_ob h b) (hob : g_ob h b) : gMet D s0 l y_AL_add1 b_AL_add1 2 (some .boolean) ({ frames := 6, cells := 1, slots := 1600, locals := 150 } : Room) [.ref a, .ref b] h (fun v h' => some (.int (iZ 1)) = v ∧ isAL D h' a w (L ++ [b]) ∧ kp (P_AL a) h h') := by
  obtain ⟨e0, mc, fA, hc⟩ := id ha
  refine g_enter B0 (plainFor_of_name (by decide)) (Nat.le_of_ble_eq_true rfl) (fun p e s m below meth c ls X hnm hl => ?_)
  have hl : lv_has ls 2 [(0, .ref a), (1, .ref b)] := hl
  refine g_1 (fun w => lv_aload_n X.1 X.2.1 d_AL_add1_0 rfl (lv_at hl 0 rfl) w) ?_
  refine g_1 (fun w => lv_dup X.1 X.2.1 d_AL_add1_1 rfl w) ?_
  refine g_get X (ci := 3) rfl fA 2 (by decide) ⟨rfl, rfl⟩ tw_46 (Or.inr tw_47) rfl d_AL_add1_2 ?_
  refine g_1 (fun w => lv_iconst (v := iZ 1) X.1 X.2.1 d_AL_add1_5 rfl w) ?_
  refine g_iadd X d_AL_add1_6 ?_
  refine g_put X (ci := 3) rfl fA (Nat.succ_ne_zero _) 2 (by decide) ⟨rfl, rfl⟩ tw_46 (Or.inr tw_47) rfl rfl rfl (Nat.le_of_ble_eq_true rfl) d_AL_add1_7 ?_
  obtain ⟨h_1, eh_1⟩ : ∃ z, z = g_up h a ((5, w), .inr (3, [.ref e0, .int (iZ (L.length)), .int (iZ (mc + 1))])) := ⟨_, rfl⟩
  refine g_h (h' := h_1) eh_1.symm ?_
  have f_2 : h_1 a = some ((5, w), .inr (3, [.ref e0, .int (iZ (L.length)), .int (iZ (mc + 1))])) := by rw [eh_1]; exact g_us
  have hk_3 := kp_up (kp_rf (P := P_AL a) (h := h)) eh_1 fA (Or.inl rfl)
  refine g_1 (fun w => lv_aload_n X.1 X.2.1 d_AL_add1_10 rfl (lv_at hl 0 rfl) w) ?_
  refine g_1 (fun w => lv_aload_n X.1 X.2.1 d_AL_add1_11 rfl (lv_at hl 1 rfl) w) ?_
  refine g_1 (fun w => lv_aload_n X.1 X.2.1 d_AL_add1_12 rfl (lv_at hl 0 rfl) w) ?_
  refine g_get X (ci := 3) rfl f_2 0 (by decide) ⟨rfl, rfl⟩ tw_43 (Or.inl rfl) rfl d_AL_add1_13 ?_
  refine g_1 (fun w => lv_aload_n X.1 X.2.1 d_AL_add1_16 rfl (lv_at hl 0 rfl) w) ?_
  refine g_get X (ci := 3) rfl f_2 1 (by decide) ⟨rfl, rfl⟩ tw_44 (Or.inl rfl) rfl d_AL_add1_17 ?_
  have hk0 : kp (fun q _ => q = a) h h_1 := kp_up kp_rf eh_1 fA rfl
  have hc2 : (e0 = D.1 200 ∧ L = []) ∨ ∃ (cap : Nat) (f : Nat → Option Nat), h_1 e0 = some ((14, a), gO D cap f) ∧ 1 ≤ cap ∧ cap ≤ 1600 ∧ L.length ≤ cap ∧ ∀ j, j < L.length → f j = some (L.getD j 0) := by
    rcases hc with z | ⟨cap, f, z1, z2⟩
    · exact Or.inl z
    · exact Or.inr ⟨cap, f, hk0 _ _ z1 (fun y => by subst y; cases fA.symm.trans z1), z2⟩
  refine g_callV (na := 3) X (c_AL_add3 B0 f_2 hc2 hL (fun z hz => (hel z hz).kp hk0 fA) (hob.kp hk0 fA)) rfl f_2 rfl ⟨⟨tw_226, tw_4⟩, ⟨by decide, by decide, by decide +kernel⟩, by decide, by decide⟩ tw_223 tw_225 ts_AL_add3 rfl hl.1 (Nat.le_of_ble_eq_true rfl) ⟨by decide, by decide⟩ d_AL_add1_20 (fun v h' hp => ?_)
  obtain ⟨rfl, q1, hk8⟩ := hp
  have hk7 := kp_tr hk_3 hk8
  refine g_widen (k' := 0 + 1) (n' := 0 + 1600) (by decide) (by decide) ?_
  show G D s0 p l e _ s m _ below meth c h' _ _ _ (F0 m 23 ls [])
  refine g_1 (fun w => lv_iconst (v := iZ 1) X.1 X.2.1 d_AL_add1_23 rfl w) ?_
  exact g_zret X rfl (⟨rfl, q1, hk7⟩) (by decide) (by decide) d_AL_add1_24
