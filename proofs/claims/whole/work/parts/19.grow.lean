set_option maxHeartbeats 4000000 in
set_option maxRecDepth 100000 in
theorem c_AR_copyOf2 {D : va_G} {s0 : State} {l : Launch} {h : gH} (B0 : gB D s0) {e0 w cap N : Nat} {f : Nat → Option Nat} (fE : h e0 = some ((14, w), gO D cap f)) (h1 : cap ≤ N) (h2 : N ≤ 1600) (hel : ∀ j, j < cap → ∀ y, f j = some y → g_ob h y) : gMet D s0 l y_AR_copyOf2 b_AR_copyOf2 2 (some (.array (.object "java/lang/Object"))) ({ frames := 2, cells := 1, slots := 1600, locals := 63 } : Room) [.ref e0, .int (iZ (N))] h (fun v h' => ∃ na : Nat, h na = none ∧ some (.ref na) = v ∧ g_up h na ((14, w), gO D N (fun j => if j < cap then f j else none)) = h') := by
  refine g_enter B0 (plainFor_of_name (by decide)) (Nat.le_of_ble_eq_true rfl) (fun p e s m below meth c ls X hnm hl => ?_)
  have hl : lv_has ls 2 [(0, .ref e0), (1, .int (iZ (N)))] := hl
  refine g_1 (fun w => lv_aload_n X.1 X.2.1 d_AR_copyOf2_0 rfl (lv_at hl 0 rfl) w) ?_
  refine g_1 (fun w => lv_iload_n X.1 X.2.1 d_AR_copyOf2_1 rfl (lv_at hl 1 rfl) w) ?_
  refine g_1 (fun w => lv_aload_n X.1 X.2.1 d_AR_copyOf2_2 rfl (lv_at hl 0 rfl) w) ?_
  refine g_getC X fE tw_248 hl.1 (by decide) (Nat.le_of_ble_eq_true rfl) d_AR_copyOf2_3 ?_
  refine g_callS (na := 3) X (c_AR_copyOf3 B0 fE h1 h2 hel) rfl ⟨⟨tw_262, tw_15⟩, ⟨by decide, by decide, by decide +kernel⟩, by decide, by decide⟩ tw_260 tw_261 rfl hl.1 (Nat.le_of_ble_eq_true rfl) ⟨by decide, by decide⟩ d_AR_copyOf2_6 (fun v h' hp => ?_)
  obtain ⟨na, hfna, rfl, eh9⟩ := hp
  refine g_widen (k' := 0 + 1) (n' := 0 + 1600) (by decide) (by decide) ?_
  show G D s0 p l e _ s m _ below meth c h' _ _ _ (F0 m 9 ls [.ref na])
  exact g_aret (r := some (na)) X (Or.inr ⟨_, rfl⟩) (⟨na, hfna, rfl, eh9⟩) (by decide) (by decide) d_AR_copyOf2_9

set_option maxHeartbeats 4000000 in
set_option maxRecDepth 100000 in
theorem c_AL_grow1 {D : va_G} {s0 : State} {l : Launch} {h : gH} (B0 : gB D s0) {a w e0 : Nat} {mc : Int} {L : List Nat} (fA : h a = some ((5, w), .inr (3, [.ref e0, .int (iZ L.length), .int (iZ mc)]))) (hc : (e0 = D.1 200 ∧ L = []) ∨ ∃ f : Nat → Option Nat, h e0 = some ((14, a), gO D L.length f) ∧ 1 ≤ L.length ∧ ∀ j, j < L.length → f j = some (L.getD j 0)) (hL : L.length ≤ 1024) (hel : ∀ b ∈ L, g_ob h b) : gMet D s0 l y_AL_grow1 b_AL_grow1 4 (some (.array (.object "java/lang/Object"))) ({ frames := 3, cells := 1, slots := 1600, locals := 84 } : Room) [.ref a, .int (iZ (L.length + 1))] h (fun v h' => ∃ (na cap : Nat) (f' : Nat → Option Nat), some (.ref na) = v ∧ h' a = some ((5, w), .inr (3, [.ref na, .int (iZ L.length), .int (iZ mc)])) ∧ h' na = some ((14, a), gO D cap f') ∧ L.length < cap ∧ cap ≤ 1600 ∧ (∀ j, j < L.length → f' j = some (L.getD j 0)) ∧ kp (fun q t => q = a) h h') := by
  refine g_enter B0 (plainFor_of_name (by decide)) (Nat.le_of_ble_eq_true rfl) (fun p e s m below meth c ls X hnm hl => ?_)
  have hl : lv_has ls 4 [(0, .ref a), (1, .int (iZ (L.length + 1)))] := hl
  rcases hc with ⟨rfl, rfl⟩ | ⟨f, fE, hc1, hc4⟩
  · have fA : h a = some ((5, w), .inr (3, [.ref (D.1 200), .int (iZ 0), .int (iZ mc)])) := fA
    have hl : lv_has ls 4 [(0, .ref a), (1, .int (iZ (0 + 1)))] := hl
    refine g_1 (fun w => lv_aload_n X.1 X.2.1 d_AL_grow1_0 rfl (lv_at hl 0 rfl) w) ?_
    refine g_get X (ci := 3) rfl fA 0 (by decide) ⟨rfl, rfl⟩ tw_43 (Or.inl rfl) rfl d_AL_grow1_1 ?_
    refine g_alens X d_AL_grow1_4 ?_
    refine g_s (fun kk => lv_istore_n (lv' := [(2, .int (iZ (0))), (0, .ref a), (1, .int (iZ (0 + 1)))]) X.1 X.2.1 d_AL_grow1_5 rfl hl (by decide) rfl kk) (fun ls hl => ?_)
    refine g_1 (fun w => lv_iload_n X.1 X.2.1 d_AL_grow1_6 rfl (lv_at hl 0 rfl) w) ?_
    refine g_if_gt (tgt := 20) X (⟨by omega, by omega⟩) d_AL_grow1_7 (by decide) (fun c7 => ?_) (fun c7 => ?_)
    · exfalso
      omega
    · refine g_1 (fun w => lv_aload_n X.1 X.2.1 d_AL_grow1_10 rfl (lv_at hl 1 rfl) w) ?_
      refine g_get X (ci := 3) rfl fA 0 (by decide) ⟨rfl, rfl⟩ tw_43 (Or.inl rfl) rfl d_AL_grow1_11 ?_
      refine g_gets X tw_41 d_AL_grow1_14 ?_
      refine g_acmpT (tgt := 45) X d_AL_grow1_17 (by decide) ?_
      refine g_1 (fun w => lv_aload_n X.1 X.2.1 d_AL_grow1_45 rfl (lv_at hl 1 rfl) w) ?_
      refine g_1 (fun w => lv_bipush (v := iZ 10) X.1 X.2.1 d_AL_grow1_46 (by decide) w) ?_
      refine g_1 (fun w => lv_iload_n X.1 X.2.1 d_AL_grow1_48 rfl (lv_at hl 2 rfl) w) ?_
      refine g_callS (na := 2) X (c_MA_max B0 ⟨by omega, by omega⟩ ⟨by omega, by omega⟩) rfl ⟨⟨tw_240, tw_14⟩, ⟨by decide, by decide, by decide +kernel⟩, by decide, by decide⟩ tw_272 tw_239 rfl hl.1 (Nat.le_of_ble_eq_true rfl) ⟨by decide, by decide⟩ d_AL_grow1_49 (fun v h' hp => ?_)
      obtain ⟨rfl, rfl⟩ := hp
      refine g_widen (k' := 0) (n' := 0) (by decide) (by decide) ?_
      show G D s0 p l e _ s m _ below meth c h _ _ _ (F0 m 52 ls [.int (iZ (max 10 (0 + 1))), .ref a])
      refine g_ti (congrArg iZ (show (max 10 (0 + 1) : Int) = 10 from by decide)) ?_
      refine g_newo X tw_273 (10) (by omega) (by omega) (fun z => (14, a)) (by decide) (by decide) d_AL_grow1_52 (fun na_1 hfna_1 => ?_)
      obtain ⟨h_2, eh_2⟩ : ∃ z, z = g_up h na_1 ((14, a), gO D 10 (fun _ => none)) := ⟨_, rfl⟩
      refine g_h (h' := h_2) eh_2.symm ?_
      have f_3 : h_2 a = some ((5, w), .inr (3, [.ref (D.1 200), .int (iZ (0)), .int (iZ (mc))])) := by rw [eh_2]; exact g_uf fA hfna_1
      have f_4 : h_2 na_1 = some ((14, a), gO D 10 (fun _ => none)) := by rw [eh_2]; exact g_us
      have hk_5 := kp_new (kp_rf (P := (fun q t => q = a)) (h := h)) eh_2 hfna_1
      refine g_1 (fun w => lv_dup_x1 X.1 X.2.1 d_AL_grow1_55 rfl rfl w) ?_
      refine g_put X (ci := 3) rfl f_3 (Nat.succ_ne_zero _) 0 (by decide) ⟨rfl, rfl⟩ tw_43 (Or.inl rfl) rfl rfl rfl (Nat.le_of_ble_eq_true rfl) d_AL_grow1_56 ?_
      obtain ⟨h_6, eh_6⟩ : ∃ z, z = g_up h_2 a ((5, w), .inr (3, [.ref na_1, .int (iZ (0)), .int (iZ (mc))])) := ⟨_, rfl⟩
      refine g_h (h' := h_6) eh_6.symm ?_
      have f_7 : h_6 a = some ((5, w), .inr (3, [.ref na_1, .int (iZ (0)), .int (iZ (mc))])) := by rw [eh_6]; exact g_us
      have f_8 : h_6 na_1 = some ((14, a), gO D 10 (fun _ => none)) := by rw [eh_6]; exact g_uk f_4 f_3 (show (14 : Nat) ≠ 5 by decide)
      have hk_9 := kp_up (hk_5) eh_6 f_3 (rfl)
      exact g_aret (r := some (na_1)) X (Or.inr ⟨_, rfl⟩) (⟨na_1, 10, _, rfl, f_7, f_8, by decide, by decide, fun j hj => absurd hj (Nat.not_lt_zero _), hk_9⟩) (by decide) (by decide) d_AL_grow1_59
  · obtain ⟨N, hN⟩ : ∃ N : Nat, N = L.length + max 1 (L.length / 2) := ⟨_, rfl⟩
    refine g_1 (fun w => lv_aload_n X.1 X.2.1 d_AL_grow1_0 rfl (lv_at hl 0 rfl) w) ?_
    refine g_get X (ci := 3) rfl fA 0 (by decide) ⟨rfl, rfl⟩ tw_43 (Or.inl rfl) rfl d_AL_grow1_1 ?_
    refine g_aleno X fE d_AL_grow1_4 ?_
    refine g_s (fun kk => lv_istore_n (lv' := [(2, .int (iZ (L.length))), (0, .ref a), (1, .int (iZ (L.length + 1)))]) X.1 X.2.1 d_AL_grow1_5 rfl hl (by decide) rfl kk) (fun ls hl => ?_)
    refine g_1 (fun w => lv_iload_n X.1 X.2.1 d_AL_grow1_6 rfl (lv_at hl 0 rfl) w) ?_
    refine g_if_gt (tgt := 20) X (⟨by omega, by omega⟩) d_AL_grow1_7 (by decide) (fun c7 => ?_) (fun c7 => ?_)
    · refine g_1 (fun w => lv_iload_n X.1 X.2.1 d_AL_grow1_20 rfl (lv_at hl 0 rfl) w) ?_
      refine g_1 (fun w => lv_iload_n X.1 X.2.1 d_AL_grow1_21 rfl (lv_at hl 2 rfl) w) ?_
      refine g_1 (fun w => lv_iload_n X.1 X.2.1 d_AL_grow1_22 rfl (lv_at hl 0 rfl) w) ?_
      refine g_isub X d_AL_grow1_23 ?_
      refine g_1 (fun w => lv_iload_n X.1 X.2.1 d_AL_grow1_24 rfl (lv_at hl 0 rfl) w) ?_
      refine g_1 (fun w => lv_iconst (v := iZ 1) X.1 X.2.1 d_AL_grow1_25 rfl w) ?_
      refine g_shr1 X (L.length) (rfl) (by omega) d_AL_grow1_26 ?_
      refine g_callS (na := 3) X (c_AS_newLength B0 (by omega) (by omega) (by omega) (by omega) (by omega) (by omega)) rfl ⟨⟨tw_237, tw_13⟩, ⟨by decide, by decide, by decide +kernel⟩, by decide, by decide⟩ tw_235 tw_236 rfl hl.1 (Nat.le_of_ble_eq_true rfl) ⟨by decide, by decide⟩ d_AL_grow1_27 (fun v h' hp => ?_)
      obtain ⟨rfl, rfl⟩ := hp
      refine g_widen (k' := 0) (n' := 0) (by decide) (by decide) ?_
      show G D s0 p l e _ s m _ below meth c h _ _ _ (F0 m 30 ls [.int (iZ ((L.length : Int) + max ((L.length + 1) - (L.length : Int)) ((L.length / 2 : Nat) : Int)))])
      refine g_ti (congrArg iZ (show ((L.length : Int) + max ((L.length + 1) - (L.length : Int)) ((L.length / 2 : Nat) : Int) : Int) = N from by omega)) ?_
      refine g_s (fun kk => lv_istore_n (lv' := [(3, .int (iZ (N))), (2, .int (iZ (L.length))), (0, .ref a), (1, .int (iZ (L.length + 1)))]) X.1 X.2.1 d_AL_grow1_30 rfl hl (by decide) rfl kk) (fun ls hl => ?_)
      refine g_1 (fun w => lv_aload_n X.1 X.2.1 d_AL_grow1_31 rfl (lv_at hl 2 rfl) w) ?_
      refine g_1 (fun w => lv_aload_n X.1 X.2.1 d_AL_grow1_32 rfl (lv_at hl 2 rfl) w) ?_
      refine g_get X (ci := 3) rfl fA 0 (by decide) ⟨rfl, rfl⟩ tw_43 (Or.inl rfl) rfl d_AL_grow1_33 ?_
      refine g_1 (fun w => lv_iload_n X.1 X.2.1 d_AL_grow1_36 rfl (lv_at hl 0 rfl) w) ?_
      refine g_callS (na := 2) X (c_AR_copyOf2 (w := a) B0 fE (show L.length ≤ N by omega) (by omega) (fun j hj y hy => hel y (by rw [hc4 j hj] at hy; cases hy; rw [List.getD_eq_getElem?_getD, List.getElem?_eq_getElem hj]; exact List.getElem_mem hj))) rfl ⟨⟨tw_247, tw_15⟩, ⟨by decide, by decide, by decide +kernel⟩, by decide, by decide⟩ tw_245 tw_246 rfl hl.1 (Nat.le_of_ble_eq_true rfl) ⟨by decide, by decide⟩ d_AL_grow1_37 (fun v h' hp => ?_)
      obtain ⟨na, hfna, rfl, eh9⟩ := hp
      have fA2 : h' a = some ((5, w), .inr (3, [.ref e0, .int (iZ L.length), .int (iZ mc)])) := by rw [← eh9]; exact g_uf fA hfna
      have fN : h' na = some ((14, a), gO D N (fun j => if j < L.length then f j else none)) := by rw [← eh9]; exact g_us
      have hk9 := kp_new (kp_rf (P := (fun q t => q = a)) (h := h)) eh9.symm hfna
      refine g_widen (k' := 0 + 1) (n' := 0 + 1600) (by decide) (by decide) ?_
      show G D s0 p l e _ s m _ below meth c h' _ _ _ (F0 m 40 ls [.ref na, .ref a])
      refine g_1 (fun w => lv_dup_x1 X.1 X.2.1 d_AL_grow1_40 rfl rfl w) ?_
      refine g_put X (ci := 3) rfl fA2 (Nat.succ_ne_zero _) 0 (by decide) ⟨rfl, rfl⟩ tw_43 (Or.inl rfl) rfl rfl rfl (Nat.le_of_ble_eq_true rfl) d_AL_grow1_41 ?_
      obtain ⟨h_1, eh_1⟩ : ∃ z, z = g_up h' a ((5, w), .inr (3, [.ref na, .int (iZ (L.length)), .int (iZ (mc))])) := ⟨_, rfl⟩
      refine g_h (h' := h_1) eh_1.symm ?_
      have f_2 : h_1 a = some ((5, w), .inr (3, [.ref na, .int (iZ (L.length)), .int (iZ (mc))])) := by rw [eh_1]; exact g_us
      have f_3 : h_1 na = some ((14, a), gO D N (fun j => if j < L.length then f j else none)) := by rw [eh_1]; exact g_uk fN fA2 (show (14 : Nat) ≠ 5 by decide)
      have hk_4 := kp_up (hk9) eh_1 fA2 (rfl)
      exact g_aret (r := some (na)) X (Or.inr ⟨_, rfl⟩) (⟨na, N, _, rfl, f_2, f_3, by omega, by omega, fun j hj => by rw [if_pos hj]; exact hc4 j hj, hk_4⟩) (by decide) (by decide) d_AL_grow1_44
    · exfalso
      omega

set_option maxHeartbeats 4000000 in
set_option maxRecDepth 100000 in
theorem c_AL_grow0 {D : va_G} {s0 : State} {l : Launch} {h : gH} (B0 : gB D s0) {a w e0 : Nat} {mc : Int} {L : List Nat} (fA : h a = some ((5, w), .inr (3, [.ref e0, .int (iZ L.length), .int (iZ mc)]))) (hc : (e0 = D.1 200 ∧ L = []) ∨ ∃ f : Nat → Option Nat, h e0 = some ((14, a), gO D L.length f) ∧ 1 ≤ L.length ∧ ∀ j, j < L.length → f j = some (L.getD j 0)) (hL : L.length ≤ 1024) (hel : ∀ b ∈ L, g_ob h b) : gMet D s0 l y_AL_grow0 b_AL_grow0 1 (some (.array (.object "java/lang/Object"))) ({ frames := 4, cells := 1, slots := 1600, locals := 107 } : Room) [.ref a] h (fun v h' => ∃ (na cap : Nat) (f' : Nat → Option Nat), some (.ref na) = v ∧ h' a = some ((5, w), .inr (3, [.ref na, .int (iZ L.length), .int (iZ mc)])) ∧ h' na = some ((14, a), gO D cap f') ∧ L.length < cap ∧ cap ≤ 1600 ∧ (∀ j, j < L.length → f' j = some (L.getD j 0)) ∧ kp (fun q t => q = a) h h') := by
  refine g_enter B0 (plainFor_of_name (by decide)) (Nat.le_of_ble_eq_true rfl) (fun p e s m below meth c ls X hnm hl => ?_)
  have hl : lv_has ls 1 [(0, .ref a)] := hl
  refine g_1 (fun w => lv_aload_n X.1 X.2.1 d_AL_grow0_0 rfl (lv_at hl 0 rfl) w) ?_
  refine g_1 (fun w => lv_aload_n X.1 X.2.1 d_AL_grow0_1 rfl (lv_at hl 0 rfl) w) ?_
  refine g_get X (ci := 3) rfl fA 1 (by decide) ⟨rfl, rfl⟩ tw_44 (Or.inl rfl) rfl d_AL_grow0_2 ?_
  refine g_1 (fun w => lv_iconst (v := iZ 1) X.1 X.2.1 d_AL_grow0_5 rfl w) ?_
  refine g_iadd X d_AL_grow0_6 ?_
  refine g_callV (na := 1) X (c_AL_grow1 B0 fA hc hL hel) rfl fA rfl ⟨⟨tw_234, tw_4⟩, ⟨by decide, by decide, by decide +kernel⟩, by decide, by decide⟩ tw_231 tw_233 ts_AL_grow1 rfl hl.1 (Nat.le_of_ble_eq_true rfl) ⟨by decide, by decide⟩ d_AL_grow0_7 (fun v h' hp => ?_)
  obtain ⟨na, cap, f', rfl, hq⟩ := hp
  refine g_widen (k' := 0 + 1) (n' := 0 + 1600) (by decide) (by decide) ?_
  show G D s0 p l e _ s m _ below meth c h' _ _ _ (F0 m 10 ls [.ref na])
  exact g_aret (r := some (na)) X (Or.inr ⟨_, rfl⟩) (⟨na, cap, f', rfl, hq⟩) (by decide) (by decide) d_AL_grow0_10
