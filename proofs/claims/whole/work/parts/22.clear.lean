set_option maxHeartbeats 4000000 in
set_option maxRecDepth 100000 in
theorem c_AL_clear {D : va_G} {s0 : State} {l : Launch} {h : gH} (B0 : gB D s0) {a w : Nat} {L : List Nat} (ha : isAL D h a w L) (hL : L.length ≤ 1600) : gMet D s0 l y_AL_clear b_AL_clear 4 none ({ frames := 0, cells := 0, slots := 0, locals := 0 } : Room) [.ref a] h (fun v h' => none = v ∧ isAL D h' a w [] ∧ kp (P_AL a) h h') := by
  obtain ⟨e0, mc, fA, hc⟩ := id ha
  refine g_enter B0 (plainFor_of_name (by decide)) (Nat.le_of_ble_eq_true rfl) (fun p e s m below meth c ls X hnm hl => ?_)
  have hl : lv_has ls 4 [(0, .ref a)] := hl
  rcases hc with ⟨rfl, hLn⟩ | ⟨cap, f, fE, hc1, hc2, hc3, hc4⟩
  · have hLl : L.length = 0 := by rw [hLn]; rfl
    refine g_1 (fun w => lv_aload_n X.1 X.2.1 d_AL_clear_0 rfl (lv_at hl 0 rfl) w) ?_
    refine g_1 (fun w => lv_dup X.1 X.2.1 d_AL_clear_1 rfl w) ?_
    refine g_get X (ci := 3) rfl fA 2 (by decide) ⟨rfl, rfl⟩ tw_46 (Or.inr tw_47) rfl d_AL_clear_2 ?_
    refine g_1 (fun w => lv_iconst (v := iZ 1) X.1 X.2.1 d_AL_clear_5 rfl w) ?_
    refine g_iadd X d_AL_clear_6 ?_
    refine g_put X (ci := 3) rfl fA (Nat.succ_ne_zero _) 2 (by decide) ⟨rfl, rfl⟩ tw_46 (Or.inr tw_47) rfl rfl rfl (Nat.le_of_ble_eq_true rfl) d_AL_clear_7 ?_
    obtain ⟨h_1, eh_1⟩ : ∃ z, z = g_up h a ((5, w), .inr (3, [.ref (D.1 200), .int (iZ (L.length)), .int (iZ (mc + 1))])) := ⟨_, rfl⟩
    refine g_h (h' := h_1) eh_1.symm ?_
    have f_2 : h_1 a = some ((5, w), .inr (3, [.ref (D.1 200), .int (iZ (L.length)), .int (iZ (mc + 1))])) := by rw [eh_1]; exact g_us
    have hk_3 := kp_up (kp_rf (P := P_AL a) (h := h)) eh_1 fA (Or.inl rfl)
    refine g_1 (fun w => lv_aload_n X.1 X.2.1 d_AL_clear_10 rfl (lv_at hl 0 rfl) w) ?_
    refine g_get X (ci := 3) rfl f_2 0 (by decide) ⟨rfl, rfl⟩ tw_43 (Or.inl rfl) rfl d_AL_clear_11 ?_
    refine g_s (fun kk => lv_astore_n (lv' := [(1, .ref (D.1 200)), (0, .ref a)]) X.1 X.2.1 d_AL_clear_14 rfl hl (by decide) rfl kk) (fun ls hl => ?_)
    refine g_1 (fun w => lv_aload_n X.1 X.2.1 d_AL_clear_15 rfl (lv_at hl 1 rfl) w) ?_
    refine g_get X (ci := 3) rfl f_2 1 (by decide) ⟨rfl, rfl⟩ tw_44 (Or.inl rfl) rfl d_AL_clear_16 ?_
    refine g_s (fun kk => lv_istore_n (lv' := [(2, .int (iZ (L.length))), (1, .ref (D.1 200)), (0, .ref a)]) X.1 X.2.1 d_AL_clear_19 rfl hl (by decide) rfl kk) (fun ls hl => ?_)
    refine g_1 (fun w => lv_aload_n X.1 X.2.1 d_AL_clear_20 rfl (lv_at hl 2 rfl) w) ?_
    refine g_1 (fun w => lv_iconst (v := iZ 0) X.1 X.2.1 d_AL_clear_21 rfl w) ?_
    refine g_1 (fun w => lv_dup_x1 X.1 X.2.1 d_AL_clear_22 rfl rfl w) ?_
    refine g_put X (ci := 3) rfl f_2 (Nat.succ_ne_zero _) 1 (by decide) ⟨rfl, rfl⟩ tw_44 (Or.inl rfl) rfl rfl rfl (Nat.le_of_ble_eq_true rfl) d_AL_clear_23 ?_
    obtain ⟨h_4, eh_4⟩ : ∃ z, z = g_up h_1 a ((5, w), .inr (3, [.ref (D.1 200), .int (iZ (0)), .int (iZ (mc + 1))])) := ⟨_, rfl⟩
    refine g_h (h' := h_4) eh_4.symm ?_
    have f_5 : h_4 a = some ((5, w), .inr (3, [.ref (D.1 200), .int (iZ (0)), .int (iZ (mc + 1))])) := by rw [eh_4]; exact g_us
    have hk_6 := kp_up (hk_3) eh_4 f_2 (Or.inl rfl)
    refine g_s (fun kk => lv_istore_n (lv' := [(3, .int (iZ (0))), (2, .int (iZ (L.length))), (1, .ref (D.1 200)), (0, .ref a)]) X.1 X.2.1 d_AL_clear_26 rfl hl (by decide) rfl kk) (fun ls hl => ?_)
    refine g_1 (fun w => lv_iload_n X.1 X.2.1 d_AL_clear_27 rfl (lv_at hl 0 rfl) w) ?_
    refine g_1 (fun w => lv_iload_n X.1 X.2.1 d_AL_clear_28 rfl (lv_at hl 1 rfl) w) ?_
    refine g_icmp_ge (tgt := 42) X (⟨by omega, by omega⟩) (⟨by omega, by omega⟩) d_AL_clear_29 (by decide) (fun c29 => ?_) (fun c29 => ?_)
    · exact g_vret X (⟨rfl, ⟨_, _, f_5, Or.inl ⟨rfl, rfl⟩⟩, hk_6⟩) (by decide) (by decide) d_AL_clear_42
    · exfalso
      omega
  · have loop : ∀ (d i : Nat) (hh : gH) (ff : Nat → Option Nat) (ls : Array Slot), i + d = L.length → hh a = some ((5, w), .inr (3, [.ref e0, .int (iZ (0)), .int (iZ (mc + 1))])) → hh e0 = some ((14, a), gO D cap (ff)) → kp (P_AL a) h hh → lv_has ls 4 [(3, .int (iZ (i))), (2, .int (iZ (L.length))), (1, .ref e0), (0, .ref a)] → G D s0 p l e ({ frames := 0, cells := 0, slots := 0, locals := 0 } : Room) s m ([.ref a] : List Value).toArray below meth c hh 0 0 (MQ below (gQ D s0 (fun v h' => none = v ∧ isAL D h' a w [] ∧ kp (P_AL a) h h')) ([.ref a] : List Value).toArray s 0 0 (fun q => s0.heap.size ≤ q)) (F0 m 27 ls []) := by
      intro d
      induction d with
      | zero =>
        intro i hh ff ls hi gA gE_ hkk hl
        refine g_1 (fun w => lv_iload_n X.1 X.2.1 d_AL_clear_27 rfl (lv_at hl 0 rfl) w) ?_
        refine g_1 (fun w => lv_iload_n X.1 X.2.1 d_AL_clear_28 rfl (lv_at hl 1 rfl) w) ?_
        refine g_icmp_ge (tgt := 42) X (⟨by omega, by omega⟩) (⟨by omega, by omega⟩) d_AL_clear_29 (by decide) (fun c29 => ?_) (fun c29 => ?_)
        · exact g_vret X (⟨rfl, ⟨e0, _, gA, Or.inr ⟨cap, ff, gE_, hc1, hc2, Nat.zero_le _, fun j hj => absurd hj (Nat.not_lt_zero _)⟩⟩, hkk⟩) (by decide) (by decide) d_AL_clear_42
        · exfalso
          omega
      | succ d ih =>
        intro i hh ff ls hi gA gE_ hkk hl
        refine g_1 (fun w => lv_iload_n X.1 X.2.1 d_AL_clear_27 rfl (lv_at hl 0 rfl) w) ?_
        refine g_1 (fun w => lv_iload_n X.1 X.2.1 d_AL_clear_28 rfl (lv_at hl 1 rfl) w) ?_
        refine g_icmp_ge (tgt := 42) X (⟨by omega, by omega⟩) (⟨by omega, by omega⟩) d_AL_clear_29 (by decide) (fun c29 => ?_) (fun c29 => ?_)
        · exfalso
          omega
        · refine g_1 (fun w => lv_aload_n X.1 X.2.1 d_AL_clear_32 rfl (lv_at hl 2 rfl) w) ?_
          refine g_1 (fun w => lv_iload_n X.1 X.2.1 d_AL_clear_33 rfl (lv_at hl 0 rfl) w) ?_
          refine g_1 (fun w => lv_null X.1 X.2.1 d_AL_clear_34 w) ?_
          refine g_astN X gE_ (Nat.succ_ne_zero _) (i) (rfl) (by omega) (by omega) d_AL_clear_35 ?_
          obtain ⟨h_1, eh_1⟩ : ∃ z, z = g_up hh e0 ((14, a), gO D cap (va_up (ff) (i) (none))) := ⟨_, rfl⟩
          refine g_h (h' := h_1) eh_1.symm ?_
          have f_2 : h_1 a = some ((5, w), .inr (3, [.ref e0, .int (iZ (0)), .int (iZ (mc + 1))])) := by rw [eh_1]; exact g_uk gA gE_ (show (5 : Nat) ≠ 14 by decide)
          have f_3 : h_1 e0 = some ((14, a), gO D cap (va_up (ff) (i) (none))) := by rw [eh_1]; exact g_us
          have hk_4 := kp_up (hkk) eh_1 gE_ (Or.inr rfl)
          refine g_s (fun kk => lv_iinc (v := iZ (i + 1)) (lv' := [(3, .int (iZ (i + 1))), (2, .int (iZ (L.length))), (1, .ref e0), (0, .ref a)]) X.1 X.2.1 d_AL_clear_36 hl (k := 0) rfl (iZ_add _ _) (by decide) rfl kk) (fun ls hl => ?_)
          refine g_goto (tgt := 27) X d_AL_clear_39 (by decide) ?_
          exact ih (i + 1) h_1 _ ls (by omega) f_2 f_3 hk_4 (lv_sub hl [0, 1, 2, 3] rfl)
    refine g_1 (fun w => lv_aload_n X.1 X.2.1 d_AL_clear_0 rfl (lv_at hl 0 rfl) w) ?_
    refine g_1 (fun w => lv_dup X.1 X.2.1 d_AL_clear_1 rfl w) ?_
    refine g_get X (ci := 3) rfl fA 2 (by decide) ⟨rfl, rfl⟩ tw_46 (Or.inr tw_47) rfl d_AL_clear_2 ?_
    refine g_1 (fun w => lv_iconst (v := iZ 1) X.1 X.2.1 d_AL_clear_5 rfl w) ?_
    refine g_iadd X d_AL_clear_6 ?_
    refine g_put X (ci := 3) rfl fA (Nat.succ_ne_zero _) 2 (by decide) ⟨rfl, rfl⟩ tw_46 (Or.inr tw_47) rfl rfl rfl (Nat.le_of_ble_eq_true rfl) d_AL_clear_7 ?_
    obtain ⟨h_1, eh_1⟩ : ∃ z, z = g_up h a ((5, w), .inr (3, [.ref e0, .int (iZ (L.length)), .int (iZ (mc + 1))])) := ⟨_, rfl⟩
    refine g_h (h' := h_1) eh_1.symm ?_
    have f_2 : h_1 a = some ((5, w), .inr (3, [.ref e0, .int (iZ (L.length)), .int (iZ (mc + 1))])) := by rw [eh_1]; exact g_us
    have f_3 : h_1 e0 = some ((14, a), gO D cap (f)) := by rw [eh_1]; exact g_uk fE fA (show (14 : Nat) ≠ 5 by decide)
    have hk_4 := kp_up (kp_rf (P := P_AL a) (h := h)) eh_1 fA (Or.inl rfl)
    refine g_1 (fun w => lv_aload_n X.1 X.2.1 d_AL_clear_10 rfl (lv_at hl 0 rfl) w) ?_
    refine g_get X (ci := 3) rfl f_2 0 (by decide) ⟨rfl, rfl⟩ tw_43 (Or.inl rfl) rfl d_AL_clear_11 ?_
    refine g_s (fun kk => lv_astore_n (lv' := [(1, .ref e0), (0, .ref a)]) X.1 X.2.1 d_AL_clear_14 rfl hl (by decide) rfl kk) (fun ls hl => ?_)
    refine g_1 (fun w => lv_aload_n X.1 X.2.1 d_AL_clear_15 rfl (lv_at hl 1 rfl) w) ?_
    refine g_get X (ci := 3) rfl f_2 1 (by decide) ⟨rfl, rfl⟩ tw_44 (Or.inl rfl) rfl d_AL_clear_16 ?_
    refine g_s (fun kk => lv_istore_n (lv' := [(2, .int (iZ (L.length))), (1, .ref e0), (0, .ref a)]) X.1 X.2.1 d_AL_clear_19 rfl hl (by decide) rfl kk) (fun ls hl => ?_)
    refine g_1 (fun w => lv_aload_n X.1 X.2.1 d_AL_clear_20 rfl (lv_at hl 2 rfl) w) ?_
    refine g_1 (fun w => lv_iconst (v := iZ 0) X.1 X.2.1 d_AL_clear_21 rfl w) ?_
    refine g_1 (fun w => lv_dup_x1 X.1 X.2.1 d_AL_clear_22 rfl rfl w) ?_
    refine g_put X (ci := 3) rfl f_2 (Nat.succ_ne_zero _) 1 (by decide) ⟨rfl, rfl⟩ tw_44 (Or.inl rfl) rfl rfl rfl (Nat.le_of_ble_eq_true rfl) d_AL_clear_23 ?_
    obtain ⟨h_5, eh_5⟩ : ∃ z, z = g_up h_1 a ((5, w), .inr (3, [.ref e0, .int (iZ (0)), .int (iZ (mc + 1))])) := ⟨_, rfl⟩
    refine g_h (h' := h_5) eh_5.symm ?_
    have f_6 : h_5 a = some ((5, w), .inr (3, [.ref e0, .int (iZ (0)), .int (iZ (mc + 1))])) := by rw [eh_5]; exact g_us
    have f_7 : h_5 e0 = some ((14, a), gO D cap (f)) := by rw [eh_5]; exact g_uk f_3 f_2 (show (14 : Nat) ≠ 5 by decide)
    have hk_8 := kp_up (hk_4) eh_5 f_2 (Or.inl rfl)
    refine g_s (fun kk => lv_istore_n (lv' := [(3, .int (iZ (0))), (2, .int (iZ (L.length))), (1, .ref e0), (0, .ref a)]) X.1 X.2.1 d_AL_clear_26 rfl hl (by decide) rfl kk) (fun ls hl => ?_)
    exact loop L.length 0 h_5 _ ls (by omega) f_6 f_7 hk_8 (lv_sub hl [0, 1, 2, 3] rfl)
