theorem thr_p {f : Int} (h : 0 < thr f 0) : f ≠ 0 := by
  intro z
  rw [thr_0 z rfl] at h
  exact absurd h (by decide)
theorem thr_z {f : Int} (h : ¬ 0 < thr f 0) : f = 0 := by
  rcases Classical.em (f = 0) with z | z
  · exact z
  · rw [thr_1 z] at h; exact absurd (by decide) h
abbrev sBad (n : Nat) (i j z : Int) : Prop := ¬ (0 ≤ i ∧ i < n) ∨ (j ≠ -1 ∧ ¬ (z = 0 ∨ z = 1))
theorem ok_if {p : Prop} [Decidable p] {c : Nat} (h : c ≤ 120) : i_ok (if p then (c : Int) else -1) := by
  split
  · exact ⟨by omega, by omega⟩
  · exact ⟨by omega, by omega⟩

set_option maxHeartbeats 4000000 in
set_option maxRecDepth 100000 in
theorem c_MD_total {D : va_G} {s0 : State} {l : Launch} {h : gH} (B0 : gB D s0) {a n : Nat} {M : Mdl} {bs : Nat → Blk} (hm : isMD D h a M) (hv : mV M n bs) (hw : ∀ b, b < n → wfC (bs b)) {yn : Nat} {ys : Nat → Lay} (hL : mL M n yn ys) {i : Int} (hi : i_ok i) : gMet D s0 l y_MD_total b_MD_total 2 (some .int) ({ frames := 1, cells := 0, slots := 0, locals := 22 } : Room) [.ref a, .int (iZ (i))] h (fun v h' => ∃ t r : Int, some (.int (iZ r)) = v ∧ isMD D h' a (t, M.2) ∧ kp P_MD h h' ∧ ((¬ (0 ≤ i ∧ i < yn) ∧ t = 1) ∨ ∃ j : Nat, (j : Int) = i ∧ j < yn ∧ t = 0 ∧ r = (ys j).2.2.1)) := by
  obtain ⟨p3, p4, p6, p7, p9, p10, p11, p12, p13, p14, f0, f3, f4, f6, f7, f9, f10, f11, f12, f13, f14⟩ := id hm
  obtain ⟨v1, v2, v3, v4, v5⟩ := id hv
  obtain ⟨l1, l2, l3⟩ := id hL
  obtain ⟨hi1, hi2⟩ := id hi
  refine g_enter B0 (plainFor_of_name (by decide)) (Nat.le_of_ble_eq_true rfl) (fun p e s m below meth c ls X hnm hl => ?_)
  have hl : lv_has ls 2 [(0, .ref a), (1, .int (iZ (i)))] := hl
  refine g_1 (fun w => lv_aload_n X.1 X.2.1 d_MD_total_0 rfl (lv_at hl 0 rfl) w) ?_
  refine g_1 (fun w => lv_iload_n X.1 X.2.1 d_MD_total_1 rfl (lv_at hl 1 rfl) w) ?_
  refine g_1 (fun w => lv_iconst (v := iZ 0) X.1 X.2.1 d_MD_total_2 rfl w) ?_
  refine g_1 (fun w => lv_aload_n X.1 X.2.1 d_MD_total_3 rfl (lv_at hl 0 rfl) w) ?_
  refine g_get X (ci := 4) rfl f0 8 (by decide) ⟨rfl, rfl⟩ tw_510 (Or.inl rfl) rfl d_MD_total_4 ?_
  refine g_1 (fun w => lv_iconst (v := iZ 1) X.1 X.2.1 d_MD_total_7 rfl w) ?_
  refine g_isub X d_MD_total_8 ?_
  refine g_callS (na := 3) X (c_MD_out B0 ⟨by omega, by omega⟩ ⟨by omega, by omega⟩ ⟨by omega, by omega⟩) rfl ⟨⟨tw_570, tw_5⟩, ⟨by decide, by decide, by decide +kernel⟩, by decide, by decide⟩ tw_568 tw_569 rfl hl.1 (Nat.le_of_ble_eq_true rfl) ⟨by decide, by decide⟩ d_MD_total_9 (fun v h' hp => ?_)
  obtain ⟨rfl, rfl⟩ := hp
  refine g_widen (k' := 0) (n' := 0) (by decide) (by decide) ?_
  show G D s0 p l e _ s m _ below meth c h _ _ _ (F0 m 12 ls [.int (iZ (if i < 0 ∨ (mY M) - 1 < i then 1 else 0)), .ref a])
  refine g_1 (fun w => lv_iconst (v := iZ 0) X.1 X.2.1 d_MD_total_12 rfl w) ?_
  refine g_callV (na := 2) X (c_MD_throwing B0 hm (by split <;> exact ⟨by omega, by omega⟩) ⟨by omega, by omega⟩ (t := thr (if i < 0 ∨ (mY M) - 1 < i then 1 else 0) (0)) rfl (r := if 0 < thr (if i < 0 ∨ (mY M) - 1 < i then 1 else 0) (0) then 1 else 0) rfl) rfl f0 rfl ⟨⟨tw_563, tw_5⟩, ⟨by decide, by decide, by decide +kernel⟩, by decide, by decide⟩ tw_560 tw_562 ts_MD_throwing rfl hl.1 (Nat.le_of_ble_eq_true rfl) ⟨by decide, by decide⟩ d_MD_total_13 (fun v h_1 hp => ?_)
  obtain ⟨rfl, hm, hkT⟩ := hp
  obtain ⟨p3, p4, p6, p7, p9, p10, p11, p12, p13, p14, f0, f3, f4, f6, f7, f9, f10, f11, f12, f13, f14⟩ := id hm
  refine g_widen (k' := 0) (n' := 0) (by decide) (by decide) ?_
  show G D s0 p l e _ s m _ below meth c h_1 _ _ _ (F0 m 16 ls [.int (iZ (if 0 < thr (if i < 0 ∨ (mY M) - 1 < i then 1 else 0) (0) then 1 else 0))])
  refine g_if_eq (tgt := 21) X (by first | exact ok_if (k5 _) | exact ⟨by omega, by omega⟩ | (split <;> exact ⟨by omega, by omega⟩) | exact cmpZ_ok _ _ | exact mul_ok (by omega) (by omega) (by omega) (by omega)) d_MD_total_16 (by decide) (fun c16 => ?_) (fun c16 => ?_)
  · have hnz := thr_z (if_0 c16)
    have hz := if_0 hnz
    obtain ⟨yi, rfl, hyi⟩ : ∃ yi : Nat, (yi : Int) = i ∧ yi < yn := ⟨i.toNat, by omega, by omega⟩
    refine g_1 (fun w => lv_aload_n X.1 X.2.1 d_MD_total_21 rfl (lv_at hl 0 rfl) w) ?_
    refine g_get X (ci := 4) rfl f0 10 (by decide) ⟨rfl, rfl⟩ tw_512 (Or.inl rfl) rfl d_MD_total_22 ?_
    refine g_1 (fun w => lv_iload_n X.1 X.2.1 d_MD_total_25 rfl (lv_at hl 1 rfl) w) ?_
    refine g_ild X f10 (yi) (rfl) (by omega) (by omega) d_MD_total_26 ?_
    exact g_iret X (⟨0, _, rfl, by rw [← thr_0 (g := 0) hnz rfl]; exact hm, hkT, Or.inr ⟨yi, rfl, hyi, rfl, (l3 yi hyi).1⟩⟩) (by decide) (by decide) d_MD_total_27
  · refine g_1 (fun w => lv_iconst (v := iZ 0) X.1 X.2.1 d_MD_total_19 rfl w) ?_
    exact g_iret X (⟨1, 0, rfl, by rw [← thr_1 (g := 0) (thr_p (if_1 c16))]; exact hm, hkT, Or.inl ⟨by have z := if_1 (thr_p (if_1 c16)); omega, rfl⟩⟩) (by decide) (by decide) d_MD_total_20

set_option maxHeartbeats 4000000 in
set_option maxRecDepth 100000 in
theorem c_MD_cut {D : va_G} {s0 : State} {l : Launch} {h : gH} (B0 : gB D s0) {a n : Nat} {M : Mdl} {bs : Nat → Blk} (hm : isMD D h a M) (hv : mV M n bs) (hw : ∀ b, b < n → wfC (bs b)) {yn : Nat} {ys : Nat → Lay} (hL : mL M n yn ys) {i z : Int} (hi : i_ok i) (hj : i_ok z) : gMet D s0 l y_MD_cut b_MD_cut 4 (some .int) ({ frames := 1, cells := 0, slots := 0, locals := 22 } : Room) [.ref a, .int (iZ (i)), .int (iZ (z))] h (fun v h' => ∃ t r : Int, some (.int (iZ r)) = v ∧ isMD D h' a (t, M.2) ∧ kp P_MD h h' ∧ ((¬ (0 ≤ z ∧ z < n) ∧ t = 1) ∨ ((0 ≤ z ∧ z < n) ∧ ¬ (0 ≤ i ∧ i < yn) ∧ t = 2) ∨ ∃ j b : Nat, (j : Int) = i ∧ (b : Int) = z ∧ j < yn ∧ b < n ∧ t = 0 ∧ r = (ys j).2.1 b)) := by
  obtain ⟨p3, p4, p6, p7, p9, p10, p11, p12, p13, p14, f0, f3, f4, f6, f7, f9, f10, f11, f12, f13, f14⟩ := id hm
  obtain ⟨v1, v2, v3, v4, v5⟩ := id hv
  obtain ⟨l1, l2, l3⟩ := id hL
  obtain ⟨hi1, hi2⟩ := id hi
  obtain ⟨hj1, hj2⟩ := id hj
  refine g_enter B0 (plainFor_of_name (by decide)) (Nat.le_of_ble_eq_true rfl) (fun p e s m below meth c ls X hnm hl => ?_)
  have hl : lv_has ls 4 [(0, .ref a), (1, .int (iZ (i))), (2, .int (iZ (z)))] := hl
  refine g_1 (fun w => lv_iload_n X.1 X.2.1 d_MD_cut_0 rfl (lv_at hl 2 rfl) w) ?_
  refine g_1 (fun w => lv_iconst (v := iZ 0) X.1 X.2.1 d_MD_cut_1 rfl w) ?_
  refine g_1 (fun w => lv_aload_n X.1 X.2.1 d_MD_cut_2 rfl (lv_at hl 0 rfl) w) ?_
  refine g_get X (ci := 4) rfl f0 1 (by decide) ⟨rfl, rfl⟩ tw_503 (Or.inl rfl) rfl d_MD_cut_3 ?_
  refine g_1 (fun w => lv_iconst (v := iZ 1) X.1 X.2.1 d_MD_cut_6 rfl w) ?_
  refine g_isub X d_MD_cut_7 ?_
  refine g_callS (na := 3) X (c_MD_out B0 ⟨by omega, by omega⟩ ⟨by omega, by omega⟩ ⟨by omega, by omega⟩) rfl ⟨⟨tw_570, tw_5⟩, ⟨by decide, by decide, by decide +kernel⟩, by decide, by decide⟩ tw_568 tw_569 rfl hl.1 (Nat.le_of_ble_eq_true rfl) ⟨by decide, by decide⟩ d_MD_cut_8 (fun v h' hp => ?_)
  obtain ⟨rfl, rfl⟩ := hp
  refine g_widen (k' := 0) (n' := 0) (by decide) (by decide) ?_
  show G D s0 p l e _ s m _ below meth c h _ _ _ (F0 m 11 ls [.int (iZ (if z < 0 ∨ (mN M) - 1 < z then 1 else 0))])
  refine g_s (fun kk => lv_istore_n (lv' := [(3, .int (iZ (if z < 0 ∨ (mN M) - 1 < z then 1 else 0))), (0, .ref a), (1, .int (iZ (i))), (2, .int (iZ (z)))]) X.1 X.2.1 d_MD_cut_11 rfl hl (by decide) rfl kk) (fun ls hl => ?_)
  refine g_1 (fun w => lv_aload_n X.1 X.2.1 d_MD_cut_12 rfl (lv_at hl 1 rfl) w) ?_
  refine g_1 (fun w => lv_iload_n X.1 X.2.1 d_MD_cut_13 rfl (lv_at hl 0 rfl) w) ?_
  refine g_1 (fun w => lv_iload_n X.1 X.2.1 d_MD_cut_14 rfl (lv_at hl 0 rfl) w) ?_
  refine g_if_ne (tgt := 36) X (by first | exact ok_if (k5 _) | exact ⟨by omega, by omega⟩ | (split <;> exact ⟨by omega, by omega⟩) | exact cmpZ_ok _ _ | exact mul_ok (by omega) (by omega) (by omega) (by omega)) d_MD_cut_15 (by decide) (fun c15 => ?_) (fun c15 => ?_)
  · refine g_1 (fun w => lv_iconst (v := iZ 0) X.1 X.2.1 d_MD_cut_36 rfl w) ?_
    refine g_callV (na := 2) X (c_MD_throwing B0 hm (by split <;> exact ⟨by omega, by omega⟩) ⟨by omega, by omega⟩ (t := 1) (thr_1 c15).symm (r := 1) (by decide)) rfl f0 rfl ⟨⟨tw_563, tw_5⟩, ⟨by decide, by decide, by decide +kernel⟩, by decide, by decide⟩ tw_560 tw_562 ts_MD_throwing rfl hl.1 (Nat.le_of_ble_eq_true rfl) ⟨by decide, by decide⟩ d_MD_cut_37 (fun v h_1 hp => ?_)
    obtain ⟨rfl, hm, hkT⟩ := hp
    obtain ⟨p3, p4, p6, p7, p9, p10, p11, p12, p13, p14, f0, f3, f4, f6, f7, f9, f10, f11, f12, f13, f14⟩ := id hm
    refine g_widen (k' := 0) (n' := 0) (by decide) (by decide) ?_
    show G D s0 p l e _ s m _ below meth c h_1 _ _ _ (F0 m 40 ls [.int (iZ (1))])
    refine g_if_eq (tgt := 45) X (by first | exact ok_if (k5 _) | exact ⟨by omega, by omega⟩ | (split <;> exact ⟨by omega, by omega⟩) | exact cmpZ_ok _ _ | exact mul_ok (by omega) (by omega) (by omega) (by omega)) d_MD_cut_40 (by decide) (fun c40 => ?_) (fun c40 => ?_)
    · exact absurd c40 (by decide)
    · refine g_1 (fun w => lv_iconst (v := iZ 0) X.1 X.2.1 d_MD_cut_43 rfl w) ?_
      exact g_iret X (⟨1, 0, rfl, hm, hkT, Or.inl ⟨by have z := if_1 c15; omega, rfl⟩⟩) (by decide) (by decide) d_MD_cut_44
  · obtain ⟨bi, rfl, hbi⟩ : ∃ bi : Nat, (bi : Int) = z ∧ bi < n := ⟨z.toNat, by have z := if_0 c15; omega, by have z := if_0 c15; omega⟩
    obtain ⟨u1, u2, u3⟩ := v5 bi hbi
    obtain ⟨⟨⟨k1, k2, k3, k4, k5, k6, k7, k8⟩, w2, w3, w4⟩, w5, w6⟩ := id (hw bi hbi)
    have wc := hw bi hbi
    refine g_1 (fun w => lv_iload_n X.1 X.2.1 d_MD_cut_18 rfl (lv_at hl 2 rfl) w) ?_
    refine g_1 (fun w => lv_iconst (v := iZ 0) X.1 X.2.1 d_MD_cut_19 rfl w) ?_
    refine g_1 (fun w => lv_aload_n X.1 X.2.1 d_MD_cut_20 rfl (lv_at hl 1 rfl) w) ?_
    refine g_get X (ci := 4) rfl f0 8 (by decide) ⟨rfl, rfl⟩ tw_510 (Or.inl rfl) rfl d_MD_cut_21 ?_
    refine g_1 (fun w => lv_iconst (v := iZ 1) X.1 X.2.1 d_MD_cut_24 rfl w) ?_
    refine g_isub X d_MD_cut_25 ?_
    refine g_callS (na := 3) X (c_MD_out B0 ⟨by omega, by omega⟩ ⟨by omega, by omega⟩ ⟨by omega, by omega⟩) rfl ⟨⟨tw_570, tw_5⟩, ⟨by decide, by decide, by decide +kernel⟩, by decide, by decide⟩ tw_568 tw_569 rfl hl.1 (Nat.le_of_ble_eq_true rfl) ⟨by decide, by decide⟩ d_MD_cut_26 (fun v h' hp => ?_)
    obtain ⟨rfl, rfl⟩ := hp
    refine g_widen (k' := 0) (n' := 0) (by decide) (by decide) ?_
    show G D s0 p l e _ s m _ below meth c h _ _ _ (F0 m 29 ls [.int (iZ (if i < 0 ∨ (mY M) - 1 < i then 1 else 0)), .int (iZ (if (bi : Int) < 0 ∨ (mN M) - 1 < (bi : Int) then 1 else 0)), .ref a])
    refine g_if_eq (tgt := 36) X (by first | exact ok_if (k5 _) | exact ⟨by omega, by omega⟩ | (split <;> exact ⟨by omega, by omega⟩) | exact cmpZ_ok _ _ | exact mul_ok (by omega) (by omega) (by omega) (by omega)) d_MD_cut_29 (by decide) (fun c29 => ?_) (fun c29 => ?_)
    · refine g_1 (fun w => lv_iconst (v := iZ 0) X.1 X.2.1 d_MD_cut_36 rfl w) ?_
      refine g_callV (na := 2) X (c_MD_throwing B0 hm (by split <;> exact ⟨by omega, by omega⟩) ⟨by omega, by omega⟩ (t := 0) (thr_0 c15 rfl).symm (r := 0) (by decide)) rfl f0 rfl ⟨⟨tw_563, tw_5⟩, ⟨by decide, by decide, by decide +kernel⟩, by decide, by decide⟩ tw_560 tw_562 ts_MD_throwing rfl hl.1 (Nat.le_of_ble_eq_true rfl) ⟨by decide, by decide⟩ d_MD_cut_37 (fun v h_2 hp => ?_)
      obtain ⟨rfl, hm, hkT⟩ := hp
      obtain ⟨p3, p4, p6, p7, p9, p10, p11, p12, p13, p14, f0, f3, f4, f6, f7, f9, f10, f11, f12, f13, f14⟩ := id hm
      refine g_widen (k' := 0) (n' := 0) (by decide) (by decide) ?_
      show G D s0 p l e _ s m _ below meth c h_2 _ _ _ (F0 m 40 ls [.int (iZ (0))])
      refine g_if_eq (tgt := 45) X (by first | exact ok_if (k5 _) | exact ⟨by omega, by omega⟩ | (split <;> exact ⟨by omega, by omega⟩) | exact cmpZ_ok _ _ | exact mul_ok (by omega) (by omega) (by omega) (by omega)) d_MD_cut_40 (by decide) (fun c40 => ?_) (fun c40 => ?_)
      · obtain ⟨yi, rfl, hyi⟩ : ∃ yi : Nat, (yi : Int) = i ∧ yi < yn := ⟨i.toNat, by have z := if_0 c29; omega, by have z := if_0 c29; omega⟩
        refine g_1 (fun w => lv_aload_n X.1 X.2.1 d_MD_cut_45 rfl (lv_at hl 1 rfl) w) ?_
        refine g_get X (ci := 4) rfl f0 9 (by decide) ⟨rfl, rfl⟩ tw_511 (Or.inl rfl) rfl d_MD_cut_46 ?_
        refine g_1 (fun w => lv_sipush (v := iZ 1024) X.1 X.2.1 d_MD_cut_49 (by decide) w) ?_
        refine g_1 (fun w => lv_iload_n X.1 X.2.1 d_MD_cut_52 rfl (lv_at hl 2 rfl) w) ?_
        refine g_imul X d_MD_cut_53 ?_
        refine g_1 (fun w => lv_iload_n X.1 X.2.1 d_MD_cut_54 rfl (lv_at hl 3 rfl) w) ?_
        refine g_iadd X d_MD_cut_55 ?_
        refine g_ild X f9 (1024 * yi + bi) (by omega) (by omega) (by omega) d_MD_cut_56 ?_
        exact g_iret X (⟨0, _, rfl, hm, hkT, Or.inr (Or.inr ⟨yi, bi, rfl, rfl, hyi, hbi, rfl, (l3 yi hyi).2.2.2 bi hbi⟩)⟩) (by decide) (by decide) d_MD_cut_57
      · exact absurd c40 (by decide)
    · refine g_1 (fun w => lv_iconst (v := iZ 1) X.1 X.2.1 d_MD_cut_32 rfl w) ?_
      refine g_goto (tgt := 37) X d_MD_cut_33 (by decide) ?_
      refine g_callV (na := 2) X (c_MD_throwing B0 hm (by split <;> exact ⟨by omega, by omega⟩) ⟨by omega, by omega⟩ (t := 2) (thr_2 c15 (by decide)).symm (r := 1) (by decide)) rfl f0 rfl ⟨⟨tw_563, tw_5⟩, ⟨by decide, by decide, by decide +kernel⟩, by decide, by decide⟩ tw_560 tw_562 ts_MD_throwing rfl hl.1 (Nat.le_of_ble_eq_true rfl) ⟨by decide, by decide⟩ d_MD_cut_37 (fun v h_3 hp => ?_)
      obtain ⟨rfl, hm, hkT⟩ := hp
      obtain ⟨p3, p4, p6, p7, p9, p10, p11, p12, p13, p14, f0, f3, f4, f6, f7, f9, f10, f11, f12, f13, f14⟩ := id hm
      refine g_widen (k' := 0) (n' := 0) (by decide) (by decide) ?_
      show G D s0 p l e _ s m _ below meth c h_3 _ _ _ (F0 m 40 ls [.int (iZ (1))])
      refine g_if_eq (tgt := 45) X (by first | exact ok_if (k5 _) | exact ⟨by omega, by omega⟩ | (split <;> exact ⟨by omega, by omega⟩) | exact cmpZ_ok _ _ | exact mul_ok (by omega) (by omega) (by omega) (by omega)) d_MD_cut_40 (by decide) (fun c40 => ?_) (fun c40 => ?_)
      · exact absurd c40 (by decide)
      · refine g_1 (fun w => lv_iconst (v := iZ 0) X.1 X.2.1 d_MD_cut_43 rfl w) ?_
        exact g_iret X (⟨2, 0, rfl, hm, hkT, Or.inr (Or.inl ⟨by omega, by have z := if_1 c29; omega, rfl⟩)⟩) (by decide) (by decide) d_MD_cut_44

set_option maxHeartbeats 4000000 in
set_option maxRecDepth 100000 in
theorem c_MD_threshold {D : va_G} {s0 : State} {l : Launch} {h : gH} (B0 : gB D s0) {a n : Nat} {M : Mdl} {bs : Nat → Blk} (hm : isMD D h a M) (hv : mV M n bs) (hw : ∀ b, b < n → wfC (bs b)) {yn : Nat} {ys : Nat → Lay} (hL : mL M n yn ys) (hyo : ∀ j, j < yn → i_ok (ys j).2.2.2.2) {i z : Int} (hi : i_ok i) (hj : i_ok z) : gMet D s0 l y_MD_threshold b_MD_threshold 4 (some .long) ({ frames := 1, cells := 0, slots := 0, locals := 22 } : Room) [.ref a, .int (iZ (i)), .int (iZ (z))] h (fun v h' => ∃ t r : Int, some (.long (lZ r)) = v ∧ isMD D h' a (t, M.2) ∧ kp P_MD h h' ∧ ((¬ (z = 0 ∨ z = 1) ∧ t = 1) ∨ ((z = 0 ∨ z = 1) ∧ ¬ (0 ≤ i ∧ i < yn) ∧ t = 2) ∨ ∃ j : Nat, (z = 0 ∨ z = 1) ∧ (j : Int) = i ∧ j < yn ∧ t = 0 ∧ r = if z = 0 then (ys j).2.2.2.1 else (ys j).2.2.2.2)) := by
  obtain ⟨p3, p4, p6, p7, p9, p10, p11, p12, p13, p14, f0, f3, f4, f6, f7, f9, f10, f11, f12, f13, f14⟩ := id hm
  obtain ⟨v1, v2, v3, v4, v5⟩ := id hv
  obtain ⟨l1, l2, l3⟩ := id hL
  obtain ⟨hi1, hi2⟩ := id hi
  obtain ⟨hj1, hj2⟩ := id hj
  refine g_enter B0 (plainFor_of_name (by decide)) (Nat.le_of_ble_eq_true rfl) (fun p e s m below meth c ls X hnm hl => ?_)
  have hl : lv_has ls 4 [(0, .ref a), (1, .int (iZ (i))), (2, .int (iZ (z)))] := hl
  refine g_1 (fun w => lv_iload_n X.1 X.2.1 d_MD_threshold_0 rfl (lv_at hl 2 rfl) w) ?_
  refine g_1 (fun w => lv_iconst (v := iZ 0) X.1 X.2.1 d_MD_threshold_1 rfl w) ?_
  refine g_1 (fun w => lv_iconst (v := iZ 1) X.1 X.2.1 d_MD_threshold_2 rfl w) ?_
  refine g_callS (na := 3) X (c_MD_out B0 ⟨by omega, by omega⟩ ⟨by omega, by omega⟩ ⟨by omega, by omega⟩) rfl ⟨⟨tw_570, tw_5⟩, ⟨by decide, by decide, by decide +kernel⟩, by decide, by decide⟩ tw_568 tw_569 rfl hl.1 (Nat.le_of_ble_eq_true rfl) ⟨by decide, by decide⟩ d_MD_threshold_3 (fun v h' hp => ?_)
  obtain ⟨rfl, rfl⟩ := hp
  refine g_widen (k' := 0) (n' := 0) (by decide) (by decide) ?_
  show G D s0 p l e _ s m _ below meth c h _ _ _ (F0 m 6 ls [.int (iZ (if z < 0 ∨ 1 < z then 1 else 0))])
  refine g_s (fun kk => lv_istore_n (lv' := [(3, .int (iZ (if z < 0 ∨ 1 < z then 1 else 0))), (0, .ref a), (1, .int (iZ (i))), (2, .int (iZ (z)))]) X.1 X.2.1 d_MD_threshold_6 rfl hl (by decide) rfl kk) (fun ls hl => ?_)
  refine g_1 (fun w => lv_aload_n X.1 X.2.1 d_MD_threshold_7 rfl (lv_at hl 1 rfl) w) ?_
  refine g_1 (fun w => lv_iload_n X.1 X.2.1 d_MD_threshold_8 rfl (lv_at hl 0 rfl) w) ?_
  refine g_1 (fun w => lv_iload_n X.1 X.2.1 d_MD_threshold_9 rfl (lv_at hl 0 rfl) w) ?_
  refine g_if_ne (tgt := 31) X (by first | exact (by rw [hyo2]; exact hyo _ hyi) | exact ok_if (k5 _) | exact ⟨by omega, by omega⟩ | (split <;> exact ⟨by omega, by omega⟩) | exact cmpZ_ok _ _ | exact mul_ok (by omega) (by omega) (by omega) (by omega)) d_MD_threshold_10 (by decide) (fun c10 => ?_) (fun c10 => ?_)
  · refine g_1 (fun w => lv_iconst (v := iZ 0) X.1 X.2.1 d_MD_threshold_31 rfl w) ?_
    refine g_callV (na := 2) X (c_MD_throwing B0 hm (by split <;> exact ⟨by omega, by omega⟩) ⟨by omega, by omega⟩ (t := 1) (thr_1 c10).symm (r := 1) (by decide)) rfl f0 rfl ⟨⟨tw_563, tw_5⟩, ⟨by decide, by decide, by decide +kernel⟩, by decide, by decide⟩ tw_560 tw_562 ts_MD_throwing rfl hl.1 (Nat.le_of_ble_eq_true rfl) ⟨by decide, by decide⟩ d_MD_threshold_32 (fun v h_1 hp => ?_)
    obtain ⟨rfl, hm, hkT⟩ := hp
    obtain ⟨p3, p4, p6, p7, p9, p10, p11, p12, p13, p14, f0, f3, f4, f6, f7, f9, f10, f11, f12, f13, f14⟩ := id hm
    refine g_widen (k' := 0) (n' := 0) (by decide) (by decide) ?_
    show G D s0 p l e _ s m _ below meth c h_1 _ _ _ (F0 m 35 ls [.int (iZ (1))])
    refine g_if_eq (tgt := 40) X (by first | exact (by rw [hyo2]; exact hyo _ hyi) | exact ok_if (k5 _) | exact ⟨by omega, by omega⟩ | (split <;> exact ⟨by omega, by omega⟩) | exact cmpZ_ok _ _ | exact mul_ok (by omega) (by omega) (by omega) (by omega)) d_MD_threshold_35 (by decide) (fun c35 => ?_) (fun c35 => ?_)
    · exact absurd c35 (by decide)
    · refine g_1 (fun w => lv_lconst (v := lZ 0) X.1 X.2.1 d_MD_threshold_38 (by decide) w) ?_
      exact g_lret X (⟨1, 0, rfl, hm, hkT, Or.inl ⟨by have y := if_1 c10; omega, rfl⟩⟩) (by decide) (by decide) d_MD_threshold_39
  · refine g_1 (fun w => lv_iload_n X.1 X.2.1 d_MD_threshold_13 rfl (lv_at hl 2 rfl) w) ?_
    refine g_1 (fun w => lv_iconst (v := iZ 0) X.1 X.2.1 d_MD_threshold_14 rfl w) ?_
    refine g_1 (fun w => lv_aload_n X.1 X.2.1 d_MD_threshold_15 rfl (lv_at hl 1 rfl) w) ?_
    refine g_get X (ci := 4) rfl f0 8 (by decide) ⟨rfl, rfl⟩ tw_510 (Or.inl rfl) rfl d_MD_threshold_16 ?_
    refine g_1 (fun w => lv_iconst (v := iZ 1) X.1 X.2.1 d_MD_threshold_19 rfl w) ?_
    refine g_isub X d_MD_threshold_20 ?_
    refine g_callS (na := 3) X (c_MD_out B0 ⟨by omega, by omega⟩ ⟨by omega, by omega⟩ ⟨by omega, by omega⟩) rfl ⟨⟨tw_570, tw_5⟩, ⟨by decide, by decide, by decide +kernel⟩, by decide, by decide⟩ tw_568 tw_569 rfl hl.1 (Nat.le_of_ble_eq_true rfl) ⟨by decide, by decide⟩ d_MD_threshold_21 (fun v h' hp => ?_)
    obtain ⟨rfl, rfl⟩ := hp
    refine g_widen (k' := 0) (n' := 0) (by decide) (by decide) ?_
    show G D s0 p l e _ s m _ below meth c h _ _ _ (F0 m 24 ls [.int (iZ (if i < 0 ∨ (mY M) - 1 < i then 1 else 0)), .int (iZ (if z < 0 ∨ 1 < z then 1 else 0)), .ref a])
    refine g_if_eq (tgt := 31) X (by first | exact (by rw [hyo2]; exact hyo _ hyi) | exact ok_if (k5 _) | exact ⟨by omega, by omega⟩ | (split <;> exact ⟨by omega, by omega⟩) | exact cmpZ_ok _ _ | exact mul_ok (by omega) (by omega) (by omega) (by omega)) d_MD_threshold_24 (by decide) (fun c24 => ?_) (fun c24 => ?_)
    · refine g_1 (fun w => lv_iconst (v := iZ 0) X.1 X.2.1 d_MD_threshold_31 rfl w) ?_
      refine g_callV (na := 2) X (c_MD_throwing B0 hm (by split <;> exact ⟨by omega, by omega⟩) ⟨by omega, by omega⟩ (t := 0) (thr_0 c10 rfl).symm (r := 0) (by decide)) rfl f0 rfl ⟨⟨tw_563, tw_5⟩, ⟨by decide, by decide, by decide +kernel⟩, by decide, by decide⟩ tw_560 tw_562 ts_MD_throwing rfl hl.1 (Nat.le_of_ble_eq_true rfl) ⟨by decide, by decide⟩ d_MD_threshold_32 (fun v h_2 hp => ?_)
      obtain ⟨rfl, hm, hkT⟩ := hp
      obtain ⟨p3, p4, p6, p7, p9, p10, p11, p12, p13, p14, f0, f3, f4, f6, f7, f9, f10, f11, f12, f13, f14⟩ := id hm
      refine g_widen (k' := 0) (n' := 0) (by decide) (by decide) ?_
      show G D s0 p l e _ s m _ below meth c h_2 _ _ _ (F0 m 35 ls [.int (iZ (0))])
      refine g_if_eq (tgt := 40) X (by first | exact (by rw [hyo2]; exact hyo _ hyi) | exact ok_if (k5 _) | exact ⟨by omega, by omega⟩ | (split <;> exact ⟨by omega, by omega⟩) | exact cmpZ_ok _ _ | exact mul_ok (by omega) (by omega) (by omega) (by omega)) d_MD_threshold_35 (by decide) (fun c35 => ?_) (fun c35 => ?_)
      · have hzz := if_0 c10
        obtain ⟨yi, rfl, hyi⟩ : ∃ yi : Nat, (yi : Int) = i ∧ yi < yn := ⟨i.toNat, by have z := if_0 c24; omega, by have z := if_0 c24; omega⟩
        have hyo2 := (l3 yi hyi).2.2.1
        refine g_1 (fun w => lv_iload_n X.1 X.2.1 d_MD_threshold_40 rfl (lv_at hl 3 rfl) w) ?_
        refine g_if_ne (tgt := 53) X (by first | exact (by rw [hyo2]; exact hyo _ hyi) | exact ok_if (k5 _) | exact ⟨by omega, by omega⟩ | (split <;> exact ⟨by omega, by omega⟩) | exact cmpZ_ok _ _ | exact mul_ok (by omega) (by omega) (by omega) (by omega)) d_MD_threshold_41 (by decide) (fun c41 => ?_) (fun c41 => ?_)
        · refine g_1 (fun w => lv_aload_n X.1 X.2.1 d_MD_threshold_53 rfl (lv_at hl 1 rfl) w) ?_
          refine g_get X (ci := 4) rfl f0 12 (by decide) ⟨rfl, rfl⟩ tw_514 (Or.inl rfl) rfl d_MD_threshold_54 ?_
          refine g_1 (fun w => lv_iload_n X.1 X.2.1 d_MD_threshold_57 rfl (lv_at hl 2 rfl) w) ?_
          refine g_ild X f12 (yi) (rfl) (by omega) (by omega) d_MD_threshold_58 ?_
          refine g_i2l X (by first | exact (by rw [hyo2]; exact hyo _ hyi) | exact ok_if (k5 _) | exact ⟨by omega, by omega⟩ | (split <;> exact ⟨by omega, by omega⟩) | exact cmpZ_ok _ _ | exact mul_ok (by omega) (by omega) (by omega) (by omega)) d_MD_threshold_59 ?_
          exact g_lret X (⟨0, _, rfl, hm, hkT, Or.inr (Or.inr ⟨yi, by omega, rfl, hyi, rfl, by rw [if_neg c41]; exact (l3 yi hyi).2.2.1⟩)⟩) (by decide) (by decide) d_MD_threshold_60
        · refine g_1 (fun w => lv_aload_n X.1 X.2.1 d_MD_threshold_44 rfl (lv_at hl 1 rfl) w) ?_
          refine g_get X (ci := 4) rfl f0 11 (by decide) ⟨rfl, rfl⟩ tw_513 (Or.inl rfl) rfl d_MD_threshold_45 ?_
          refine g_1 (fun w => lv_iload_n X.1 X.2.1 d_MD_threshold_48 rfl (lv_at hl 2 rfl) w) ?_
          refine g_lld X f11 (yi) (rfl) (by omega) (by omega) d_MD_threshold_49 ?_
          refine g_goto (tgt := 60) X d_MD_threshold_50 (by decide) ?_
          exact g_lret X (⟨0, _, rfl, hm, hkT, Or.inr (Or.inr ⟨yi, by omega, rfl, hyi, rfl, by rw [if_pos c41]; exact (l3 yi hyi).2.1⟩)⟩) (by decide) (by decide) d_MD_threshold_60
      · exact absurd c35 (by decide)
    · refine g_1 (fun w => lv_iconst (v := iZ 1) X.1 X.2.1 d_MD_threshold_27 rfl w) ?_
      refine g_goto (tgt := 32) X d_MD_threshold_28 (by decide) ?_
      refine g_callV (na := 2) X (c_MD_throwing B0 hm (by split <;> exact ⟨by omega, by omega⟩) ⟨by omega, by omega⟩ (t := 2) (thr_2 c10 (by decide)).symm (r := 1) (by decide)) rfl f0 rfl ⟨⟨tw_563, tw_5⟩, ⟨by decide, by decide, by decide +kernel⟩, by decide, by decide⟩ tw_560 tw_562 ts_MD_throwing rfl hl.1 (Nat.le_of_ble_eq_true rfl) ⟨by decide, by decide⟩ d_MD_threshold_32 (fun v h_3 hp => ?_)
      obtain ⟨rfl, hm, hkT⟩ := hp
      obtain ⟨p3, p4, p6, p7, p9, p10, p11, p12, p13, p14, f0, f3, f4, f6, f7, f9, f10, f11, f12, f13, f14⟩ := id hm
      refine g_widen (k' := 0) (n' := 0) (by decide) (by decide) ?_
      show G D s0 p l e _ s m _ below meth c h_3 _ _ _ (F0 m 35 ls [.int (iZ (1))])
      refine g_if_eq (tgt := 40) X (by first | exact (by rw [hyo2]; exact hyo _ hyi) | exact ok_if (k5 _) | exact ⟨by omega, by omega⟩ | (split <;> exact ⟨by omega, by omega⟩) | exact cmpZ_ok _ _ | exact mul_ok (by omega) (by omega) (by omega) (by omega)) d_MD_threshold_35 (by decide) (fun c35 => ?_) (fun c35 => ?_)
      · exact absurd c35 (by decide)
      · refine g_1 (fun w => lv_lconst (v := lZ 0) X.1 X.2.1 d_MD_threshold_38 (by decide) w) ?_
        exact g_lret X (⟨2, 0, rfl, hm, hkT, Or.inr (Or.inl ⟨by have y := if_0 c10; omega, by have z := if_1 c24; omega, rfl⟩)⟩) (by decide) (by decide) d_MD_threshold_39

set_option maxHeartbeats 4000000 in
set_option maxRecDepth 100000 in
theorem c_MD_gain {D : va_G} {s0 : State} {l : Launch} {h : gH} (B0 : gB D s0) {a n : Nat} {M : Mdl} {bs : Nat → Blk} (hm : isMD D h a M) (hv : mV M n bs) (hw : ∀ b, b < n → wfC (bs b)) {i j : Int} (hi : i_ok i) (hj : i_ok j) : gMet D s0 l y_MD_gain b_MD_gain 5 (some .long) ({ frames := 3, cells := 0, slots := 0, locals := 77 } : Room) [.ref a, .int (iZ (i)), .int (iZ (j))] h (fun v h' => ∃ t r : Int, some (.long (lZ r)) = v ∧ isMD D h' a (t, M.2) ∧ kp P_MD h h' ∧ ((¬ (0 ≤ i ∧ i < n) ∧ t = 1) ∨ (∃ b : Nat, (b : Int) = i ∧ b < n ∧ ¬ (0 ≤ j ∧ j < bS (bs b)) ∧ t = 2) ∨ ∃ b k : Nat, (b : Int) = i ∧ (k : Int) = j ∧ b < n ∧ k < bS (bs b) ∧ t = 0 ∧ r = bG (bs b) (bC (bs b) (k + 1)) - bG (bs b) (bC (bs b) k))) := by
  obtain ⟨p3, p4, p6, p7, p9, p10, p11, p12, p13, p14, f0, f3, f4, f6, f7, f9, f10, f11, f12, f13, f14⟩ := id hm
  obtain ⟨v1, v2, v3, v4, v5⟩ := id hv
  obtain ⟨hi1, hi2⟩ := id hi
  obtain ⟨hj1, hj2⟩ := id hj
  refine g_enter B0 (plainFor_of_name (by decide)) (Nat.le_of_ble_eq_true rfl) (fun p e s m below meth c ls X hnm hl => ?_)
  have hl : lv_has ls 5 [(0, .ref a), (1, .int (iZ (i))), (2, .int (iZ (j)))] := hl
  refine g_1 (fun w => lv_iload_n X.1 X.2.1 d_MD_gain_0 rfl (lv_at hl 1 rfl) w) ?_
  refine g_1 (fun w => lv_iconst (v := iZ 0) X.1 X.2.1 d_MD_gain_1 rfl w) ?_
  refine g_1 (fun w => lv_aload_n X.1 X.2.1 d_MD_gain_2 rfl (lv_at hl 0 rfl) w) ?_
  refine g_get X (ci := 4) rfl f0 1 (by decide) ⟨rfl, rfl⟩ tw_503 (Or.inl rfl) rfl d_MD_gain_3 ?_
  refine g_1 (fun w => lv_iconst (v := iZ 1) X.1 X.2.1 d_MD_gain_6 rfl w) ?_
  refine g_isub X d_MD_gain_7 ?_
  refine g_callS (na := 3) X (c_MD_out B0 ⟨by omega, by omega⟩ ⟨by omega, by omega⟩ ⟨by omega, by omega⟩) rfl ⟨⟨tw_570, tw_5⟩, ⟨by decide, by decide, by decide +kernel⟩, by decide, by decide⟩ tw_568 tw_569 rfl hl.1 (Nat.le_of_ble_eq_true rfl) ⟨by decide, by decide⟩ d_MD_gain_8 (fun v h' hp => ?_)
  obtain ⟨rfl, rfl⟩ := hp
  refine g_widen (k' := 0) (n' := 0) (by decide) (by decide) ?_
  show G D s0 p l e _ s m _ below meth c h _ _ _ (F0 m 11 ls [.int (iZ (if i < 0 ∨ (mN M) - 1 < i then 1 else 0))])
  refine g_s (fun kk => lv_istore_n (lv' := [(3, .int (iZ (if i < 0 ∨ (mN M) - 1 < i then 1 else 0))), (0, .ref a), (1, .int (iZ (i))), (2, .int (iZ (j)))]) X.1 X.2.1 d_MD_gain_11 rfl hl (by decide) rfl kk) (fun ls hl => ?_)
  refine g_1 (fun w => lv_iload_n X.1 X.2.1 d_MD_gain_12 rfl (lv_at hl 0 rfl) w) ?_
  refine g_if_eq (tgt := 20) X (by first | exact ok_if (k5 _) | exact ⟨by omega, by omega⟩ | (split <;> exact ⟨by omega, by omega⟩) | exact cmpZ_ok _ _ | exact mul_ok (by omega) (by omega) (by omega) (by omega)) d_MD_gain_13 (by decide) (fun c13 => ?_) (fun c13 => ?_)
  · obtain ⟨bi, rfl, hbi⟩ : ∃ bi : Nat, (bi : Int) = i ∧ bi < n := ⟨i.toNat, by have z := if_0 c13; omega, by have z := if_0 c13; omega⟩
    obtain ⟨u1, u2, u3⟩ := v5 bi hbi
    obtain ⟨⟨⟨k1, k2, k3, k4, k5, k6, k7, k8⟩, w2, w3, w4⟩, w5, w6⟩ := id (hw bi hbi)
    have wc := hw bi hbi
    refine g_1 (fun w => lv_aload_n X.1 X.2.1 d_MD_gain_20 rfl (lv_at hl 1 rfl) w) ?_
    refine g_1 (fun w => lv_iload_n X.1 X.2.1 d_MD_gain_21 rfl (lv_at hl 2 rfl) w) ?_
    refine g_1 (fun w => lv_iload_n X.1 X.2.1 d_MD_gain_22 rfl (lv_at hl 3 rfl) w) ?_
    refine g_callV (na := 2) X (c_MD_beginOf B0 hm hv hw bi hbi ⟨by omega, by omega⟩) rfl f0 rfl ⟨⟨tw_581, tw_5⟩, ⟨by decide, by decide, by decide +kernel⟩, by decide, by decide⟩ tw_578 tw_580 ts_MD_beginOf rfl hl.1 (Nat.le_of_ble_eq_true rfl) ⟨by decide, by decide⟩ d_MD_gain_23 (fun v h' hp => ?_)
    obtain ⟨rfl, rfl⟩ := hp
    refine g_widen (k' := 0) (n' := 0) (by decide) (by decide) ?_
    show G D s0 p l e _ s m _ below meth c h _ _ _ (F0 m 26 ls [.int (iZ (if 0 ≤ j ∧ j < bS (bs bi) then (bC (bs bi) j.toNat : Int) else -1))])
    refine g_s (fun kk => lv_istore (lv' := [(4, .int (iZ (if 0 ≤ j ∧ j < bS (bs bi) then (bC (bs bi) j.toNat : Int) else -1))), (3, .int (iZ (if (bi : Int) < 0 ∨ (mN M) - 1 < (bi : Int) then 1 else 0))), (0, .ref a), (1, .int (iZ (bi))), (2, .int (iZ (j)))]) X.1 X.2.1 d_MD_gain_26 hl (by decide) rfl kk) (fun ls hl => ?_)
    refine g_1 (fun w => lv_aload_n X.1 X.2.1 d_MD_gain_28 rfl (lv_at hl 2 rfl) w) ?_
    refine g_1 (fun w => lv_iload_n X.1 X.2.1 d_MD_gain_29 rfl (lv_at hl 1 rfl) w) ?_
    refine g_1 (fun w => lv_iload_n X.1 X.2.1 d_MD_gain_30 rfl (lv_at hl 1 rfl) w) ?_
    refine g_if_ne (tgt := 43) X (by first | exact ok_if (k5 _) | exact ⟨by omega, by omega⟩ | (split <;> exact ⟨by omega, by omega⟩) | exact cmpZ_ok _ _ | exact mul_ok (by omega) (by omega) (by omega) (by omega)) d_MD_gain_31 (by decide) (fun c31 => ?_) (fun c31 => ?_)
    · exact absurd c13 c31
    · refine g_1 (fun w => lv_iload X.1 X.2.1 d_MD_gain_34 (lv_at hl 0 rfl) w) ?_
      refine g_if_ge (tgt := 43) X (by first | exact ok_if (k5 _) | exact ⟨by omega, by omega⟩ | (split <;> exact ⟨by omega, by omega⟩) | exact cmpZ_ok _ _ | exact mul_ok (by omega) (by omega) (by omega) (by omega)) d_MD_gain_36 (by decide) (fun c36 => ?_) (fun c36 => ?_)
      · have cj : 0 ≤ j ∧ j < bS (bs bi) := by
          rcases Classical.em (0 ≤ j ∧ j < bS (bs bi)) with z | z
          · exact z
          · rw [if_neg z] at c36; exact absurd c36 (by decide)
        refine g_1 (fun w => lv_iconst (v := iZ 0) X.1 X.2.1 d_MD_gain_43 rfl w) ?_
        refine g_callV (na := 2) X (c_MD_throwing B0 hm (by split <;> exact ⟨by omega, by omega⟩) ⟨by omega, by omega⟩ (t := 0) (thr_0 c13 rfl).symm (r := 0) (by decide)) rfl f0 rfl ⟨⟨tw_563, tw_5⟩, ⟨by decide, by decide, by decide +kernel⟩, by decide, by decide⟩ tw_560 tw_562 ts_MD_throwing rfl hl.1 (Nat.le_of_ble_eq_true rfl) ⟨by decide, by decide⟩ d_MD_gain_44 (fun v h_1 hp => ?_)
        obtain ⟨rfl, hm, hkT⟩ := hp
        obtain ⟨p3, p4, p6, p7, p9, p10, p11, p12, p13, p14, f0, f3, f4, f6, f7, f9, f10, f11, f12, f13, f14⟩ := id hm
        refine g_widen (k' := 0) (n' := 0) (by decide) (by decide) ?_
        show G D s0 p l e _ s m _ below meth c h_1 _ _ _ (F0 m 47 ls [.int (iZ (0))])
        refine g_if_eq (tgt := 52) X (by first | exact ok_if (k5 _) | exact ⟨by omega, by omega⟩ | (split <;> exact ⟨by omega, by omega⟩) | exact cmpZ_ok _ _ | exact mul_ok (by omega) (by omega) (by omega) (by omega)) d_MD_gain_47 (by decide) (fun c47 => ?_) (fun c47 => ?_)
        · obtain ⟨si, rfl, hsi⟩ : ∃ si : Nat, (si : Int) = j ∧ si < bS (bs bi) := ⟨j.toNat, by omega, by omega⟩
          have hl : lv_has ls 5 [(4, .int (iZ (bC (bs bi) si))), (3, .int (iZ (if (bi : Int) < 0 ∨ (mN M) - 1 < (bi : Int) then 1 else 0))), (0, .ref a), (1, .int (iZ (bi))), (2, .int (iZ (si)))] := by
            have z : (if 0 ≤ (si : Int) ∧ (si : Int) < bS (bs bi) then (bC (bs bi) (si : Int).toNat : Int) else -1) = bC (bs bi) si := by rw [if_pos (by omega), show (si : Int).toNat = si by omega]
            rw [z] at hl
            exact hl
          have y1 := w3 si hsi
          have y2 := w5.1 si hsi
          have y3 : eN (sfr (bs bi) (bC (bs bi) si) (bP (bs bi))) = (bC (bs bi) (si + 1) : Int) := by rw [y2]; exact eN_s (by omega)
          have y4 := wc.cle (s := si) (by omega)
          refine g_1 (fun w => lv_aload_n X.1 X.2.1 d_MD_gain_52 rfl (lv_at hl 2 rfl) w) ?_
          refine g_1 (fun w => lv_iload_n X.1 X.2.1 d_MD_gain_53 rfl (lv_at hl 3 rfl) w) ?_
          refine g_1 (fun w => lv_iload X.1 X.2.1 d_MD_gain_54 (lv_at hl 0 rfl) w) ?_
          refine g_1 (fun w => lv_aload_n X.1 X.2.1 d_MD_gain_56 rfl (lv_at hl 2 rfl) w) ?_
          refine g_1 (fun w => lv_iload_n X.1 X.2.1 d_MD_gain_57 rfl (lv_at hl 3 rfl) w) ?_
          refine g_1 (fun w => lv_iload X.1 X.2.1 d_MD_gain_58 (lv_at hl 0 rfl) w) ?_
          refine g_callV (na := 2) X (c_MD_stepFrom B0 hm hv hw bi (bC (bs bi) si) (by omega) (by omega)) rfl f0 rfl ⟨⟨tw_585, tw_5⟩, ⟨by decide, by decide, by decide +kernel⟩, by decide, by decide⟩ tw_582 tw_584 ts_MD_stepFrom rfl hl.1 (Nat.le_of_ble_eq_true rfl) ⟨by decide, by decide⟩ d_MD_gain_60 (fun v h' hp => ?_)
          obtain ⟨rfl, rfl⟩ := hp
          refine g_widen (k' := 0) (n' := 0) (by decide) (by decide) ?_
          show G D s0 p l e _ s m _ below meth c h_1 _ _ _ (F0 m 63 ls [.int (iZ (eN (sfr (bs bi) (bC (bs bi) si) (bP (bs bi))))), .int (iZ (bC (bs bi) si)), .int (iZ (bi)), .ref a])
          refine g_ti (congrArg iZ (show (eN (sfr (bs bi) (bC (bs bi) si) (bP (bs bi))) : Int) = bC (bs bi) (si + 1) from y3)) ?_
          refine g_callV (na := 3) X (c_MD_gainOf B0 hm hv hw bi (bC (bs bi) si) (bC (bs bi) (si + 1)) (by omega) (by omega) (by omega)) rfl f0 rfl ⟨⟨tw_589, tw_5⟩, ⟨by decide, by decide, by decide +kernel⟩, by decide, by decide⟩ tw_586 tw_588 ts_MD_gainOf rfl hl.1 (Nat.le_of_ble_eq_true rfl) ⟨by decide, by decide⟩ d_MD_gain_63 (fun v h' hp => ?_)
          obtain ⟨rfl, rfl⟩ := hp
          refine g_widen (k' := 0) (n' := 0) (by decide) (by decide) ?_
          show G D s0 p l e _ s m _ below meth c h_1 _ _ _ (F0 m 66 ls [.long (lZ (bG (bs bi) (bC (bs bi) (si + 1)) - bG (bs bi) (bC (bs bi) si)))])
          exact g_lret X (⟨0, _, rfl, hm, hkT, Or.inr (Or.inr ⟨bi, si, rfl, rfl, hbi, hsi, rfl, rfl⟩)⟩) (by decide) (by decide) d_MD_gain_66
        · exact absurd c47 (by decide)
      · have cj : ¬ (0 ≤ j ∧ j < bS (bs bi)) := fun z => by rw [if_pos z] at c36; omega
        refine g_1 (fun w => lv_iconst (v := iZ 1) X.1 X.2.1 d_MD_gain_39 rfl w) ?_
        refine g_goto (tgt := 44) X d_MD_gain_40 (by decide) ?_
        refine g_callV (na := 2) X (c_MD_throwing B0 hm (by split <;> exact ⟨by omega, by omega⟩) ⟨by omega, by omega⟩ (t := 2) (thr_2 c13 (by decide)).symm (r := 1) (by decide)) rfl f0 rfl ⟨⟨tw_563, tw_5⟩, ⟨by decide, by decide, by decide +kernel⟩, by decide, by decide⟩ tw_560 tw_562 ts_MD_throwing rfl hl.1 (Nat.le_of_ble_eq_true rfl) ⟨by decide, by decide⟩ d_MD_gain_44 (fun v h_2 hp => ?_)
        obtain ⟨rfl, hm, hkT⟩ := hp
        obtain ⟨p3, p4, p6, p7, p9, p10, p11, p12, p13, p14, f0, f3, f4, f6, f7, f9, f10, f11, f12, f13, f14⟩ := id hm
        refine g_widen (k' := 0) (n' := 0) (by decide) (by decide) ?_
        show G D s0 p l e _ s m _ below meth c h_2 _ _ _ (F0 m 47 ls [.int (iZ (1))])
        refine g_if_eq (tgt := 52) X (by first | exact ok_if (k5 _) | exact ⟨by omega, by omega⟩ | (split <;> exact ⟨by omega, by omega⟩) | exact cmpZ_ok _ _ | exact mul_ok (by omega) (by omega) (by omega) (by omega)) d_MD_gain_47 (by decide) (fun c47 => ?_) (fun c47 => ?_)
        · exact absurd c47 (by decide)
        · refine g_1 (fun w => lv_lconst (v := lZ 0) X.1 X.2.1 d_MD_gain_50 (by decide) w) ?_
          exact g_lret X (⟨2, 0, rfl, hm, hkT, Or.inr (Or.inl ⟨bi, rfl, hbi, cj, rfl⟩)⟩) (by decide) (by decide) d_MD_gain_51
  · refine g_1 (fun w => lv_iconst (v := iZ 0) X.1 X.2.1 d_MD_gain_16 rfl w) ?_
    refine g_goto (tgt := 26) X d_MD_gain_17 (by decide) ?_
    refine g_s (fun kk => lv_istore (lv' := [(4, .int (iZ (0))), (3, .int (iZ (if i < 0 ∨ (mN M) - 1 < i then 1 else 0))), (0, .ref a), (1, .int (iZ (i))), (2, .int (iZ (j)))]) X.1 X.2.1 d_MD_gain_26 hl (by decide) rfl kk) (fun ls hl => ?_)
    refine g_1 (fun w => lv_aload_n X.1 X.2.1 d_MD_gain_28 rfl (lv_at hl 2 rfl) w) ?_
    refine g_1 (fun w => lv_iload_n X.1 X.2.1 d_MD_gain_29 rfl (lv_at hl 1 rfl) w) ?_
    refine g_1 (fun w => lv_iload_n X.1 X.2.1 d_MD_gain_30 rfl (lv_at hl 1 rfl) w) ?_
    refine g_if_ne (tgt := 43) X (by first | exact ok_if (k5 _) | exact ⟨by omega, by omega⟩ | (split <;> exact ⟨by omega, by omega⟩) | exact cmpZ_ok _ _ | exact mul_ok (by omega) (by omega) (by omega) (by omega)) d_MD_gain_31 (by decide) (fun c31 => ?_) (fun c31 => ?_)
    · refine g_1 (fun w => lv_iconst (v := iZ 0) X.1 X.2.1 d_MD_gain_43 rfl w) ?_
      refine g_callV (na := 2) X (c_MD_throwing B0 hm (by split <;> exact ⟨by omega, by omega⟩) ⟨by omega, by omega⟩ (t := 1) (thr_1 c13).symm (r := 1) (by decide)) rfl f0 rfl ⟨⟨tw_563, tw_5⟩, ⟨by decide, by decide, by decide +kernel⟩, by decide, by decide⟩ tw_560 tw_562 ts_MD_throwing rfl hl.1 (Nat.le_of_ble_eq_true rfl) ⟨by decide, by decide⟩ d_MD_gain_44 (fun v h_3 hp => ?_)
      obtain ⟨rfl, hm, hkT⟩ := hp
      obtain ⟨p3, p4, p6, p7, p9, p10, p11, p12, p13, p14, f0, f3, f4, f6, f7, f9, f10, f11, f12, f13, f14⟩ := id hm
      refine g_widen (k' := 0) (n' := 0) (by decide) (by decide) ?_
      show G D s0 p l e _ s m _ below meth c h_3 _ _ _ (F0 m 47 ls [.int (iZ (1))])
      refine g_if_eq (tgt := 52) X (by first | exact ok_if (k5 _) | exact ⟨by omega, by omega⟩ | (split <;> exact ⟨by omega, by omega⟩) | exact cmpZ_ok _ _ | exact mul_ok (by omega) (by omega) (by omega) (by omega)) d_MD_gain_47 (by decide) (fun c47 => ?_) (fun c47 => ?_)
      · exact absurd c47 (by decide)
      · refine g_1 (fun w => lv_lconst (v := lZ 0) X.1 X.2.1 d_MD_gain_50 (by decide) w) ?_
        exact g_lret X (⟨1, 0, rfl, hm, hkT, Or.inl ⟨by have z := if_1 c13; omega, rfl⟩⟩) (by decide) (by decide) d_MD_gain_51
    · exact absurd c31 c13

set_option maxHeartbeats 4000000 in
set_option maxRecDepth 100000 in
theorem c_MD_step {D : va_G} {s0 : State} {l : Launch} {h : gH} (B0 : gB D s0) {a n : Nat} {M : Mdl} {bs : Nat → Blk} (hm : isMD D h a M) (hv : mV M n bs) (hw : ∀ b, b < n → wfC (bs b)) {i j z : Int} (hi : i_ok i) (hj : i_ok j) (hz : i_ok z) : gMet D s0 l y_MD_step b_MD_step 6 (some .int) ({ frames := 3, cells := 0, slots := 0, locals := 77 } : Room) [.ref a, .int (iZ (i)), .int (iZ (j)), .int (iZ (z))] h (fun v h' => ∃ t r : Int, some (.int (iZ r)) = v ∧ isMD D h' a (t, M.2) ∧ kp P_MD h h' ∧ ((sBad n i j z ∧ t = 1) ∨ (¬ sBad n i j z ∧ ∃ b : Nat, (b : Int) = i ∧ b < n ∧ ((j = -1 ∧ t = 0 ∧ r = bS (bs b)) ∨ (j ≠ -1 ∧ ¬ (0 ≤ j ∧ j < bS (bs b)) ∧ t = 2) ∨ (j ≠ -1 ∧ t = 0 ∧ ∃ k : Nat, (k : Int) = j ∧ k < bS (bs b) ∧ r = if z = 0 then (bC (bs b) (k + 1) : Int) else bB (bs b) (bC (bs b) (k + 1)) - bB (bs b) (bC (bs b) k)))))) := by
  obtain ⟨p3, p4, p6, p7, p9, p10, p11, p12, p13, p14, f0, f3, f4, f6, f7, f9, f10, f11, f12, f13, f14⟩ := id hm
  obtain ⟨v1, v2, v3, v4, v5⟩ := id hv
  obtain ⟨hi1, hi2⟩ := id hi
  obtain ⟨hj1, hj2⟩ := id hj
  obtain ⟨hz1, hz2⟩ := id hz
  refine g_enter B0 (plainFor_of_name (by decide)) (Nat.le_of_ble_eq_true rfl) (fun p e s m below meth c ls X hnm hl => ?_)
  have hl : lv_has ls 6 [(0, .ref a), (1, .int (iZ (i))), (2, .int (iZ (j))), (3, .int (iZ (z)))] := hl
  refine g_1 (fun w => lv_iload_n X.1 X.2.1 d_MD_step_0 rfl (lv_at hl 1 rfl) w) ?_
  refine g_1 (fun w => lv_iconst (v := iZ 0) X.1 X.2.1 d_MD_step_1 rfl w) ?_
  refine g_1 (fun w => lv_aload_n X.1 X.2.1 d_MD_step_2 rfl (lv_at hl 0 rfl) w) ?_
  refine g_get X (ci := 4) rfl f0 1 (by decide) ⟨rfl, rfl⟩ tw_503 (Or.inl rfl) rfl d_MD_step_3 ?_
  refine g_1 (fun w => lv_iconst (v := iZ 1) X.1 X.2.1 d_MD_step_6 rfl w) ?_
  refine g_isub X d_MD_step_7 ?_
  refine g_callS (na := 3) X (c_MD_out B0 ⟨by omega, by omega⟩ ⟨by omega, by omega⟩ ⟨by omega, by omega⟩) rfl ⟨⟨tw_570, tw_5⟩, ⟨by decide, by decide, by decide +kernel⟩, by decide, by decide⟩ tw_568 tw_569 rfl hl.1 (Nat.le_of_ble_eq_true rfl) ⟨by decide, by decide⟩ d_MD_step_8 (fun v h' hp => ?_)
  obtain ⟨rfl, rfl⟩ := hp
  refine g_widen (k' := 0) (n' := 0) (by decide) (by decide) ?_
  show G D s0 p l e _ s m _ below meth c h _ _ _ (F0 m 11 ls [.int (iZ (if i < 0 ∨ (mN M) - 1 < i then 1 else 0))])
  refine g_if_ne (tgt := 28) X (by first | exact ok_if (k5 _) | exact ⟨by omega, by omega⟩ | (split <;> exact ⟨by omega, by omega⟩) | exact cmpZ_ok _ _ | exact mul_ok (by omega) (by omega) (by omega) (by omega)) d_MD_step_11 (by decide) (fun c11 => ?_) (fun c11 => ?_)
  · refine g_1 (fun w => lv_iconst (v := iZ 1) X.1 X.2.1 d_MD_step_28 rfl w) ?_
    refine g_goto (tgt := 33) X d_MD_step_29 (by decide) ?_
    refine g_s (fun kk => lv_istore (lv' := [(4, .int (iZ (1))), (0, .ref a), (1, .int (iZ (i))), (2, .int (iZ (j))), (3, .int (iZ (z)))]) X.1 X.2.1 d_MD_step_33 hl (by decide) rfl kk) (fun ls hl => ?_)
    refine g_1 (fun w => lv_iload X.1 X.2.1 d_MD_step_35 (lv_at hl 0 rfl) w) ?_
    refine g_if_ne (tgt := 45) X (by first | exact ok_if (k5 _) | exact ⟨by omega, by omega⟩ | (split <;> exact ⟨by omega, by omega⟩) | exact cmpZ_ok _ _ | exact mul_ok (by omega) (by omega) (by omega) (by omega)) d_MD_step_37 (by decide) (fun c37 => ?_) (fun c37 => ?_)
    · refine g_1 (fun w => lv_iconst (v := iZ 0) X.1 X.2.1 d_MD_step_45 rfl w) ?_
      refine g_goto (tgt := 55) X d_MD_step_46 (by decide) ?_
      refine g_s (fun kk => lv_istore (lv' := [(5, .int (iZ (0))), (4, .int (iZ (1))), (0, .ref a), (1, .int (iZ (i))), (2, .int (iZ (j))), (3, .int (iZ (z)))]) X.1 X.2.1 d_MD_step_55 hl (by decide) rfl kk) (fun ls hl => ?_)
      refine g_1 (fun w => lv_aload_n X.1 X.2.1 d_MD_step_57 rfl (lv_at hl 2 rfl) w) ?_
      refine g_1 (fun w => lv_iload X.1 X.2.1 d_MD_step_58 (lv_at hl 1 rfl) w) ?_
      refine g_1 (fun w => lv_iload X.1 X.2.1 d_MD_step_60 (lv_at hl 1 rfl) w) ?_
      refine g_if_ne (tgt := 74) X (by first | exact ok_if (k5 _) | exact ⟨by omega, by omega⟩ | (split <;> exact ⟨by omega, by omega⟩) | exact cmpZ_ok _ _ | exact mul_ok (by omega) (by omega) (by omega) (by omega)) d_MD_step_62 (by decide) (fun c62 => ?_) (fun c62 => ?_)
      · refine g_1 (fun w => lv_iconst (v := iZ 0) X.1 X.2.1 d_MD_step_74 rfl w) ?_
        refine g_callV (na := 2) X (c_MD_throwing B0 hm ⟨by omega, by omega⟩ ⟨by omega, by omega⟩ (t := 1) (by decide) (r := 1) (by decide)) rfl f0 rfl ⟨⟨tw_563, tw_5⟩, ⟨by decide, by decide, by decide +kernel⟩, by decide, by decide⟩ tw_560 tw_562 ts_MD_throwing rfl hl.1 (Nat.le_of_ble_eq_true rfl) ⟨by decide, by decide⟩ d_MD_step_75 (fun v h_1 hp => ?_)
        obtain ⟨rfl, hm, hkT⟩ := hp
        obtain ⟨p3, p4, p6, p7, p9, p10, p11, p12, p13, p14, f0, f3, f4, f6, f7, f9, f10, f11, f12, f13, f14⟩ := id hm
        refine g_widen (k' := 0) (n' := 0) (by decide) (by decide) ?_
        show G D s0 p l e _ s m _ below meth c h_1 _ _ _ (F0 m 78 ls [.int (iZ (1))])
        refine g_if_eq (tgt := 83) X (by first | exact ok_if (k5 _) | exact ⟨by omega, by omega⟩ | (split <;> exact ⟨by omega, by omega⟩) | exact cmpZ_ok _ _ | exact mul_ok (by omega) (by omega) (by omega) (by omega)) d_MD_step_78 (by decide) (fun c78 => ?_) (fun c78 => ?_)
        · exact absurd c78 (by decide)
        · refine g_1 (fun w => lv_iconst (v := iZ 0) X.1 X.2.1 d_MD_step_81 rfl w) ?_
          exact g_iret X (⟨1, 0, rfl, hm, hkT, Or.inl ⟨by have y := if_1 c11; omega, rfl⟩⟩) (by decide) (by decide) d_MD_step_82
      · exact absurd c62 (by decide)
    · exact absurd c37 (by decide)
  · obtain ⟨bi, rfl, hbi⟩ : ∃ bi : Nat, (bi : Int) = i ∧ bi < n := ⟨i.toNat, by have z := if_0 c11; omega, by have z := if_0 c11; omega⟩
    obtain ⟨u1, u2, u3⟩ := v5 bi hbi
    obtain ⟨⟨⟨k1, k2, k3, k4, k5, k6, k7, k8⟩, w2, w3, w4⟩, w5, w6⟩ := id (hw bi hbi)
    have wc := hw bi hbi
    refine g_1 (fun w => lv_iload_n X.1 X.2.1 d_MD_step_14 rfl (lv_at hl 2 rfl) w) ?_
    refine g_1 (fun w => lv_iconst (v := iZ (-1)) X.1 X.2.1 d_MD_step_15 rfl w) ?_
    refine g_icmp_eq (tgt := 32) X (by first | exact ok_if (k5 _) | exact ⟨by omega, by omega⟩ | (split <;> exact ⟨by omega, by omega⟩) | exact cmpZ_ok _ _ | exact mul_ok (by omega) (by omega) (by omega) (by omega)) (by first | exact ok_if (k5 _) | exact ⟨by omega, by omega⟩ | (split <;> exact ⟨by omega, by omega⟩) | exact cmpZ_ok _ _ | exact mul_ok (by omega) (by omega) (by omega) (by omega)) d_MD_step_16 (by decide) (fun c16 => ?_) (fun c16 => ?_)
    · refine g_1 (fun w => lv_iconst (v := iZ 0) X.1 X.2.1 d_MD_step_32 rfl w) ?_
      refine g_s (fun kk => lv_istore (lv' := [(4, .int (iZ (0))), (0, .ref a), (1, .int (iZ (bi))), (2, .int (iZ (j))), (3, .int (iZ (z)))]) X.1 X.2.1 d_MD_step_33 hl (by decide) rfl kk) (fun ls hl => ?_)
      refine g_1 (fun w => lv_iload X.1 X.2.1 d_MD_step_35 (lv_at hl 0 rfl) w) ?_
      refine g_if_ne (tgt := 45) X (by first | exact ok_if (k5 _) | exact ⟨by omega, by omega⟩ | (split <;> exact ⟨by omega, by omega⟩) | exact cmpZ_ok _ _ | exact mul_ok (by omega) (by omega) (by omega) (by omega)) d_MD_step_37 (by decide) (fun c37 => ?_) (fun c37 => ?_)
      · exact absurd c37 (by decide)
      · refine g_1 (fun w => lv_iload_n X.1 X.2.1 d_MD_step_40 rfl (lv_at hl 3 rfl) w) ?_
        refine g_1 (fun w => lv_iconst (v := iZ (-1)) X.1 X.2.1 d_MD_step_41 rfl w) ?_
        refine g_icmp_ne (tgt := 49) X (by first | exact ok_if (k5 _) | exact ⟨by omega, by omega⟩ | (split <;> exact ⟨by omega, by omega⟩) | exact cmpZ_ok _ _ | exact mul_ok (by omega) (by omega) (by omega) (by omega)) (by first | exact ok_if (k5 _) | exact ⟨by omega, by omega⟩ | (split <;> exact ⟨by omega, by omega⟩) | exact cmpZ_ok _ _ | exact mul_ok (by omega) (by omega) (by omega) (by omega)) d_MD_step_42 (by decide) (fun c42 => ?_) (fun c42 => ?_)
        · exact absurd c16 c42
        · refine g_1 (fun w => lv_iconst (v := iZ 0) X.1 X.2.1 d_MD_step_45 rfl w) ?_
          refine g_goto (tgt := 55) X d_MD_step_46 (by decide) ?_
          refine g_s (fun kk => lv_istore (lv' := [(5, .int (iZ (0))), (4, .int (iZ (0))), (0, .ref a), (1, .int (iZ (bi))), (2, .int (iZ (j))), (3, .int (iZ (z)))]) X.1 X.2.1 d_MD_step_55 hl (by decide) rfl kk) (fun ls hl => ?_)
          refine g_1 (fun w => lv_aload_n X.1 X.2.1 d_MD_step_57 rfl (lv_at hl 2 rfl) w) ?_
          refine g_1 (fun w => lv_iload X.1 X.2.1 d_MD_step_58 (lv_at hl 1 rfl) w) ?_
          refine g_1 (fun w => lv_iload X.1 X.2.1 d_MD_step_60 (lv_at hl 1 rfl) w) ?_
          refine g_if_ne (tgt := 74) X (by first | exact ok_if (k5 _) | exact ⟨by omega, by omega⟩ | (split <;> exact ⟨by omega, by omega⟩) | exact cmpZ_ok _ _ | exact mul_ok (by omega) (by omega) (by omega) (by omega)) d_MD_step_62 (by decide) (fun c62 => ?_) (fun c62 => ?_)
          · exact absurd c62 (by decide)
          · refine g_1 (fun w => lv_iload X.1 X.2.1 d_MD_step_65 (lv_at hl 0 rfl) w) ?_
            refine g_if_ge (tgt := 74) X (by first | exact ok_if (k5 _) | exact ⟨by omega, by omega⟩ | (split <;> exact ⟨by omega, by omega⟩) | exact cmpZ_ok _ _ | exact mul_ok (by omega) (by omega) (by omega) (by omega)) d_MD_step_67 (by decide) (fun c67 => ?_) (fun c67 => ?_)
            · refine g_1 (fun w => lv_iconst (v := iZ 0) X.1 X.2.1 d_MD_step_74 rfl w) ?_
              refine g_callV (na := 2) X (c_MD_throwing B0 hm ⟨by omega, by omega⟩ ⟨by omega, by omega⟩ (t := 0) (by decide) (r := 0) (by decide)) rfl f0 rfl ⟨⟨tw_563, tw_5⟩, ⟨by decide, by decide, by decide +kernel⟩, by decide, by decide⟩ tw_560 tw_562 ts_MD_throwing rfl hl.1 (Nat.le_of_ble_eq_true rfl) ⟨by decide, by decide⟩ d_MD_step_75 (fun v h_2 hp => ?_)
              obtain ⟨rfl, hm, hkT⟩ := hp
              obtain ⟨p3, p4, p6, p7, p9, p10, p11, p12, p13, p14, f0, f3, f4, f6, f7, f9, f10, f11, f12, f13, f14⟩ := id hm
              refine g_widen (k' := 0) (n' := 0) (by decide) (by decide) ?_
              show G D s0 p l e _ s m _ below meth c h_2 _ _ _ (F0 m 78 ls [.int (iZ (0))])
              refine g_if_eq (tgt := 83) X (by first | exact ok_if (k5 _) | exact ⟨by omega, by omega⟩ | (split <;> exact ⟨by omega, by omega⟩) | exact cmpZ_ok _ _ | exact mul_ok (by omega) (by omega) (by omega) (by omega)) d_MD_step_78 (by decide) (fun c78 => ?_) (fun c78 => ?_)
              · refine g_1 (fun w => lv_iload_n X.1 X.2.1 d_MD_step_83 rfl (lv_at hl 4 rfl) w) ?_
                refine g_1 (fun w => lv_iconst (v := iZ (-1)) X.1 X.2.1 d_MD_step_84 rfl w) ?_
                refine g_icmp_ne (tgt := 94) X (by first | exact ok_if (k5 _) | exact ⟨by omega, by omega⟩ | (split <;> exact ⟨by omega, by omega⟩) | exact cmpZ_ok _ _ | exact mul_ok (by omega) (by omega) (by omega) (by omega)) (by first | exact ok_if (k5 _) | exact ⟨by omega, by omega⟩ | (split <;> exact ⟨by omega, by omega⟩) | exact cmpZ_ok _ _ | exact mul_ok (by omega) (by omega) (by omega) (by omega)) d_MD_step_85 (by decide) (fun c85 => ?_) (fun c85 => ?_)
                · exact absurd c16 c85
                · refine g_1 (fun w => lv_aload_n X.1 X.2.1 d_MD_step_88 rfl (lv_at hl 2 rfl) w) ?_
                  refine g_1 (fun w => lv_iload_n X.1 X.2.1 d_MD_step_89 rfl (lv_at hl 3 rfl) w) ?_
                  refine g_callV (na := 1) X (c_MD_countOf B0 hm hv hw bi hbi) rfl f0 rfl ⟨⟨tw_600, tw_5⟩, ⟨by decide, by decide, by decide +kernel⟩, by decide, by decide⟩ tw_597 tw_599 ts_MD_countOf rfl hl.1 (Nat.le_of_ble_eq_true rfl) ⟨by decide, by decide⟩ d_MD_step_90 (fun v h' hp => ?_)
                  obtain ⟨rfl, rfl⟩ := hp
                  refine g_widen (k' := 0) (n' := 0) (by decide) (by decide) ?_
                  show G D s0 p l e _ s m _ below meth c h_2 _ _ _ (F0 m 93 ls [.int (iZ (bS (bs bi)))])
                  exact g_iret X (⟨0, _, rfl, hm, hkT, Or.inr ⟨by omega, bi, rfl, hbi, Or.inl ⟨by omega, rfl, rfl⟩⟩⟩) (by decide) (by decide) d_MD_step_93
              · exact absurd c78 (by decide)
            · exact absurd c67 (by decide)
    · refine g_1 (fun w => lv_iload_n X.1 X.2.1 d_MD_step_19 rfl (lv_at hl 3 rfl) w) ?_
      refine g_1 (fun w => lv_iconst (v := iZ 0) X.1 X.2.1 d_MD_step_20 rfl w) ?_
      refine g_1 (fun w => lv_iconst (v := iZ 1) X.1 X.2.1 d_MD_step_21 rfl w) ?_
      refine g_callS (na := 3) X (c_MD_out B0 ⟨by omega, by omega⟩ ⟨by omega, by omega⟩ ⟨by omega, by omega⟩) rfl ⟨⟨tw_570, tw_5⟩, ⟨by decide, by decide, by decide +kernel⟩, by decide, by decide⟩ tw_568 tw_569 rfl hl.1 (Nat.le_of_ble_eq_true rfl) ⟨by decide, by decide⟩ d_MD_step_22 (fun v h' hp => ?_)
      obtain ⟨rfl, rfl⟩ := hp
      refine g_widen (k' := 0) (n' := 0) (by decide) (by decide) ?_
      show G D s0 p l e _ s m _ below meth c h _ _ _ (F0 m 25 ls [.int (iZ (if z < 0 ∨ 1 < z then 1 else 0))])
      refine g_if_eq (tgt := 32) X (by first | exact ok_if (k5 _) | exact ⟨by omega, by omega⟩ | (split <;> exact ⟨by omega, by omega⟩) | exact cmpZ_ok _ _ | exact mul_ok (by omega) (by omega) (by omega) (by omega)) d_MD_step_25 (by decide) (fun c25 => ?_) (fun c25 => ?_)
      · refine g_1 (fun w => lv_iconst (v := iZ 0) X.1 X.2.1 d_MD_step_32 rfl w) ?_
        refine g_s (fun kk => lv_istore (lv' := [(4, .int (iZ (0))), (0, .ref a), (1, .int (iZ (bi))), (2, .int (iZ (j))), (3, .int (iZ (z)))]) X.1 X.2.1 d_MD_step_33 hl (by decide) rfl kk) (fun ls hl => ?_)
        refine g_1 (fun w => lv_iload X.1 X.2.1 d_MD_step_35 (lv_at hl 0 rfl) w) ?_
        refine g_if_ne (tgt := 45) X (by first | exact ok_if (k5 _) | exact ⟨by omega, by omega⟩ | (split <;> exact ⟨by omega, by omega⟩) | exact cmpZ_ok _ _ | exact mul_ok (by omega) (by omega) (by omega) (by omega)) d_MD_step_37 (by decide) (fun c37 => ?_) (fun c37 => ?_)
        · exact absurd c37 (by decide)
        · refine g_1 (fun w => lv_iload_n X.1 X.2.1 d_MD_step_40 rfl (lv_at hl 3 rfl) w) ?_
          refine g_1 (fun w => lv_iconst (v := iZ (-1)) X.1 X.2.1 d_MD_step_41 rfl w) ?_
          refine g_icmp_ne (tgt := 49) X (by first | exact ok_if (k5 _) | exact ⟨by omega, by omega⟩ | (split <;> exact ⟨by omega, by omega⟩) | exact cmpZ_ok _ _ | exact mul_ok (by omega) (by omega) (by omega) (by omega)) (by first | exact ok_if (k5 _) | exact ⟨by omega, by omega⟩ | (split <;> exact ⟨by omega, by omega⟩) | exact cmpZ_ok _ _ | exact mul_ok (by omega) (by omega) (by omega) (by omega)) d_MD_step_42 (by decide) (fun c42 => ?_) (fun c42 => ?_)
          · refine g_1 (fun w => lv_aload_n X.1 X.2.1 d_MD_step_49 rfl (lv_at hl 1 rfl) w) ?_
            refine g_1 (fun w => lv_iload_n X.1 X.2.1 d_MD_step_50 rfl (lv_at hl 2 rfl) w) ?_
            refine g_1 (fun w => lv_iload_n X.1 X.2.1 d_MD_step_51 rfl (lv_at hl 3 rfl) w) ?_
            refine g_callV (na := 2) X (c_MD_beginOf B0 hm hv hw bi hbi ⟨by omega, by omega⟩) rfl f0 rfl ⟨⟨tw_581, tw_5⟩, ⟨by decide, by decide, by decide +kernel⟩, by decide, by decide⟩ tw_578 tw_580 ts_MD_beginOf rfl hl.1 (Nat.le_of_ble_eq_true rfl) ⟨by decide, by decide⟩ d_MD_step_52 (fun v h' hp => ?_)
            obtain ⟨rfl, rfl⟩ := hp
            refine g_widen (k' := 0) (n' := 0) (by decide) (by decide) ?_
            show G D s0 p l e _ s m _ below meth c h _ _ _ (F0 m 55 ls [.int (iZ (if 0 ≤ j ∧ j < bS (bs bi) then (bC (bs bi) j.toNat : Int) else -1))])
            refine g_s (fun kk => lv_istore (lv' := [(5, .int (iZ (if 0 ≤ j ∧ j < bS (bs bi) then (bC (bs bi) j.toNat : Int) else -1))), (4, .int (iZ (0))), (0, .ref a), (1, .int (iZ (bi))), (2, .int (iZ (j))), (3, .int (iZ (z)))]) X.1 X.2.1 d_MD_step_55 hl (by decide) rfl kk) (fun ls hl => ?_)
            refine g_1 (fun w => lv_aload_n X.1 X.2.1 d_MD_step_57 rfl (lv_at hl 2 rfl) w) ?_
            refine g_1 (fun w => lv_iload X.1 X.2.1 d_MD_step_58 (lv_at hl 1 rfl) w) ?_
            refine g_1 (fun w => lv_iload X.1 X.2.1 d_MD_step_60 (lv_at hl 1 rfl) w) ?_
            refine g_if_ne (tgt := 74) X (by first | exact ok_if (k5 _) | exact ⟨by omega, by omega⟩ | (split <;> exact ⟨by omega, by omega⟩) | exact cmpZ_ok _ _ | exact mul_ok (by omega) (by omega) (by omega) (by omega)) d_MD_step_62 (by decide) (fun c62 => ?_) (fun c62 => ?_)
            · exact absurd c62 (by decide)
            · refine g_1 (fun w => lv_iload X.1 X.2.1 d_MD_step_65 (lv_at hl 0 rfl) w) ?_
              refine g_if_ge (tgt := 74) X (by first | exact ok_if (k5 _) | exact ⟨by omega, by omega⟩ | (split <;> exact ⟨by omega, by omega⟩) | exact cmpZ_ok _ _ | exact mul_ok (by omega) (by omega) (by omega) (by omega)) d_MD_step_67 (by decide) (fun c67 => ?_) (fun c67 => ?_)
              · have cj : 0 ≤ j ∧ j < bS (bs bi) := by
                  rcases Classical.em (0 ≤ j ∧ j < bS (bs bi)) with z | z
                  · exact z
                  · rw [if_neg z] at c67; exact absurd c67 (by decide)
                refine g_1 (fun w => lv_iconst (v := iZ 0) X.1 X.2.1 d_MD_step_74 rfl w) ?_
                refine g_callV (na := 2) X (c_MD_throwing B0 hm ⟨by omega, by omega⟩ ⟨by omega, by omega⟩ (t := 0) (by decide) (r := 0) (by decide)) rfl f0 rfl ⟨⟨tw_563, tw_5⟩, ⟨by decide, by decide, by decide +kernel⟩, by decide, by decide⟩ tw_560 tw_562 ts_MD_throwing rfl hl.1 (Nat.le_of_ble_eq_true rfl) ⟨by decide, by decide⟩ d_MD_step_75 (fun v h_3 hp => ?_)
                obtain ⟨rfl, hm, hkT⟩ := hp
                obtain ⟨p3, p4, p6, p7, p9, p10, p11, p12, p13, p14, f0, f3, f4, f6, f7, f9, f10, f11, f12, f13, f14⟩ := id hm
                refine g_widen (k' := 0) (n' := 0) (by decide) (by decide) ?_
                show G D s0 p l e _ s m _ below meth c h_3 _ _ _ (F0 m 78 ls [.int (iZ (0))])
                refine g_if_eq (tgt := 83) X (by first | exact ok_if (k5 _) | exact ⟨by omega, by omega⟩ | (split <;> exact ⟨by omega, by omega⟩) | exact cmpZ_ok _ _ | exact mul_ok (by omega) (by omega) (by omega) (by omega)) d_MD_step_78 (by decide) (fun c78 => ?_) (fun c78 => ?_)
                · refine g_1 (fun w => lv_iload_n X.1 X.2.1 d_MD_step_83 rfl (lv_at hl 4 rfl) w) ?_
                  refine g_1 (fun w => lv_iconst (v := iZ (-1)) X.1 X.2.1 d_MD_step_84 rfl w) ?_
                  refine g_icmp_ne (tgt := 94) X (by first | exact ok_if (k5 _) | exact ⟨by omega, by omega⟩ | (split <;> exact ⟨by omega, by omega⟩) | exact cmpZ_ok _ _ | exact mul_ok (by omega) (by omega) (by omega) (by omega)) (by first | exact ok_if (k5 _) | exact ⟨by omega, by omega⟩ | (split <;> exact ⟨by omega, by omega⟩) | exact cmpZ_ok _ _ | exact mul_ok (by omega) (by omega) (by omega) (by omega)) d_MD_step_85 (by decide) (fun c85 => ?_) (fun c85 => ?_)
                  · obtain ⟨si, rfl, hsi⟩ : ∃ si : Nat, (si : Int) = j ∧ si < bS (bs bi) := ⟨j.toNat, by omega, by omega⟩
                    have hl : lv_has ls 6 [(5, .int (iZ (bC (bs bi) si))), (4, .int (iZ (0))), (0, .ref a), (1, .int (iZ (bi))), (2, .int (iZ (si))), (3, .int (iZ (z)))] := by
                      have z : (if 0 ≤ (si : Int) ∧ (si : Int) < bS (bs bi) then (bC (bs bi) (si : Int).toNat : Int) else -1) = bC (bs bi) si := by rw [if_pos (by omega), show (si : Int).toNat = si by omega]
                      rw [z] at hl
                      exact hl
                    have y1 := w3 si hsi
                    have y2 := w5.1 si hsi
                    have y3 : eN (sfr (bs bi) (bC (bs bi) si) (bP (bs bi))) = (bC (bs bi) (si + 1) : Int) := by rw [y2]; exact eN_s (by omega)
                    have y4 := wc.cle (s := si) (by omega)
                    refine g_1 (fun w => lv_iload_n X.1 X.2.1 d_MD_step_94 rfl (lv_at hl 5 rfl) w) ?_
                    refine g_if_ne (tgt := 108) X (by first | exact ok_if (k5 _) | exact ⟨by omega, by omega⟩ | (split <;> exact ⟨by omega, by omega⟩) | exact cmpZ_ok _ _ | exact mul_ok (by omega) (by omega) (by omega) (by omega)) d_MD_step_95 (by decide) (fun c95 => ?_) (fun c95 => ?_)
                    · refine g_1 (fun w => lv_aload_n X.1 X.2.1 d_MD_step_108 rfl (lv_at hl 2 rfl) w) ?_
                      refine g_1 (fun w => lv_iload_n X.1 X.2.1 d_MD_step_109 rfl (lv_at hl 3 rfl) w) ?_
                      refine g_1 (fun w => lv_iload X.1 X.2.1 d_MD_step_110 (lv_at hl 0 rfl) w) ?_
                      refine g_1 (fun w => lv_aload_n X.1 X.2.1 d_MD_step_112 rfl (lv_at hl 2 rfl) w) ?_
                      refine g_1 (fun w => lv_iload_n X.1 X.2.1 d_MD_step_113 rfl (lv_at hl 3 rfl) w) ?_
                      refine g_1 (fun w => lv_iload X.1 X.2.1 d_MD_step_114 (lv_at hl 0 rfl) w) ?_
                      refine g_callV (na := 2) X (c_MD_stepFrom B0 hm hv hw bi (bC (bs bi) si) (by omega) (by omega)) rfl f0 rfl ⟨⟨tw_585, tw_5⟩, ⟨by decide, by decide, by decide +kernel⟩, by decide, by decide⟩ tw_582 tw_584 ts_MD_stepFrom rfl hl.1 (Nat.le_of_ble_eq_true rfl) ⟨by decide, by decide⟩ d_MD_step_116 (fun v h' hp => ?_)
                      obtain ⟨rfl, rfl⟩ := hp
                      refine g_widen (k' := 0) (n' := 0) (by decide) (by decide) ?_
                      show G D s0 p l e _ s m _ below meth c h_3 _ _ _ (F0 m 119 ls [.int (iZ (eN (sfr (bs bi) (bC (bs bi) si) (bP (bs bi))))), .int (iZ (bC (bs bi) si)), .int (iZ (bi)), .ref a])
                      refine g_ti (congrArg iZ (show (eN (sfr (bs bi) (bC (bs bi) si) (bP (bs bi))) : Int) = bC (bs bi) (si + 1) from y3)) ?_
                      refine g_callV (na := 3) X (c_MD_bytesOf B0 hm hv hw bi (bC (bs bi) si) (bC (bs bi) (si + 1)) (by omega) (by omega) (by omega)) rfl f0 rfl ⟨⟨tw_593, tw_5⟩, ⟨by decide, by decide, by decide +kernel⟩, by decide, by decide⟩ tw_590 tw_592 ts_MD_bytesOf rfl hl.1 (Nat.le_of_ble_eq_true rfl) ⟨by decide, by decide⟩ d_MD_step_119 (fun v h' hp => ?_)
                      obtain ⟨rfl, rfl⟩ := hp
                      refine g_widen (k' := 0) (n' := 0) (by decide) (by decide) ?_
                      show G D s0 p l e _ s m _ below meth c h_3 _ _ _ (F0 m 122 ls [.int (iZ (bB (bs bi) (bC (bs bi) (si + 1)) - bB (bs bi) (bC (bs bi) si)))])
                      exact g_iret X (⟨0, _, rfl, hm, hkT, Or.inr ⟨by first | omega | (have z2 := if_0 c25; omega), bi, rfl, hbi, Or.inr (Or.inr ⟨by omega, rfl, si, rfl, hsi, by rw [if_neg c95]⟩)⟩⟩) (by decide) (by decide) d_MD_step_122
                    · refine g_1 (fun w => lv_aload_n X.1 X.2.1 d_MD_step_98 rfl (lv_at hl 2 rfl) w) ?_
                      refine g_1 (fun w => lv_iload_n X.1 X.2.1 d_MD_step_99 rfl (lv_at hl 3 rfl) w) ?_
                      refine g_1 (fun w => lv_iload X.1 X.2.1 d_MD_step_100 (lv_at hl 0 rfl) w) ?_
                      refine g_callV (na := 2) X (c_MD_stepFrom B0 hm hv hw bi (bC (bs bi) si) (by omega) (by omega)) rfl f0 rfl ⟨⟨tw_585, tw_5⟩, ⟨by decide, by decide, by decide +kernel⟩, by decide, by decide⟩ tw_582 tw_584 ts_MD_stepFrom rfl hl.1 (Nat.le_of_ble_eq_true rfl) ⟨by decide, by decide⟩ d_MD_step_102 (fun v h' hp => ?_)
                      obtain ⟨rfl, rfl⟩ := hp
                      refine g_widen (k' := 0) (n' := 0) (by decide) (by decide) ?_
                      show G D s0 p l e _ s m _ below meth c h_3 _ _ _ (F0 m 105 ls [.int (iZ (eN (sfr (bs bi) (bC (bs bi) si) (bP (bs bi)))))])
                      refine g_ti (congrArg iZ (show (eN (sfr (bs bi) (bC (bs bi) si) (bP (bs bi))) : Int) = bC (bs bi) (si + 1) from y3)) ?_
                      refine g_goto (tgt := 122) X d_MD_step_105 (by decide) ?_
                      exact g_iret X (⟨0, _, rfl, hm, hkT, Or.inr ⟨by first | omega | (have z2 := if_0 c25; omega), bi, rfl, hbi, Or.inr (Or.inr ⟨by omega, rfl, si, rfl, hsi, by rw [if_pos c95]⟩)⟩⟩) (by decide) (by decide) d_MD_step_122
                  · exact absurd c85 c16
                · exact absurd c78 (by decide)
              · have cj : ¬ (0 ≤ j ∧ j < bS (bs bi)) := fun z => by rw [if_pos z] at c67; omega
                refine g_1 (fun w => lv_iconst (v := iZ 1) X.1 X.2.1 d_MD_step_70 rfl w) ?_
                refine g_goto (tgt := 75) X d_MD_step_71 (by decide) ?_
                refine g_callV (na := 2) X (c_MD_throwing B0 hm ⟨by omega, by omega⟩ ⟨by omega, by omega⟩ (t := 2) (by decide) (r := 1) (by decide)) rfl f0 rfl ⟨⟨tw_563, tw_5⟩, ⟨by decide, by decide, by decide +kernel⟩, by decide, by decide⟩ tw_560 tw_562 ts_MD_throwing rfl hl.1 (Nat.le_of_ble_eq_true rfl) ⟨by decide, by decide⟩ d_MD_step_75 (fun v h_4 hp => ?_)
                obtain ⟨rfl, hm, hkT⟩ := hp
                obtain ⟨p3, p4, p6, p7, p9, p10, p11, p12, p13, p14, f0, f3, f4, f6, f7, f9, f10, f11, f12, f13, f14⟩ := id hm
                refine g_widen (k' := 0) (n' := 0) (by decide) (by decide) ?_
                show G D s0 p l e _ s m _ below meth c h_4 _ _ _ (F0 m 78 ls [.int (iZ (1))])
                refine g_if_eq (tgt := 83) X (by first | exact ok_if (k5 _) | exact ⟨by omega, by omega⟩ | (split <;> exact ⟨by omega, by omega⟩) | exact cmpZ_ok _ _ | exact mul_ok (by omega) (by omega) (by omega) (by omega)) d_MD_step_78 (by decide) (fun c78 => ?_) (fun c78 => ?_)
                · exact absurd c78 (by decide)
                · refine g_1 (fun w => lv_iconst (v := iZ 0) X.1 X.2.1 d_MD_step_81 rfl w) ?_
                  exact g_iret X (⟨2, 0, rfl, hm, hkT, Or.inr ⟨by have z2 := if_0 c25; omega, bi, rfl, hbi, Or.inr (Or.inl ⟨by omega, cj, rfl⟩)⟩⟩) (by decide) (by decide) d_MD_step_82
          · exact absurd c42 c16
      · refine g_1 (fun w => lv_iconst (v := iZ 1) X.1 X.2.1 d_MD_step_28 rfl w) ?_
        refine g_goto (tgt := 33) X d_MD_step_29 (by decide) ?_
        refine g_s (fun kk => lv_istore (lv' := [(4, .int (iZ (1))), (0, .ref a), (1, .int (iZ (bi))), (2, .int (iZ (j))), (3, .int (iZ (z)))]) X.1 X.2.1 d_MD_step_33 hl (by decide) rfl kk) (fun ls hl => ?_)
        refine g_1 (fun w => lv_iload X.1 X.2.1 d_MD_step_35 (lv_at hl 0 rfl) w) ?_
        refine g_if_ne (tgt := 45) X (by first | exact ok_if (k5 _) | exact ⟨by omega, by omega⟩ | (split <;> exact ⟨by omega, by omega⟩) | exact cmpZ_ok _ _ | exact mul_ok (by omega) (by omega) (by omega) (by omega)) d_MD_step_37 (by decide) (fun c37 => ?_) (fun c37 => ?_)
        · refine g_1 (fun w => lv_iconst (v := iZ 0) X.1 X.2.1 d_MD_step_45 rfl w) ?_
          refine g_goto (tgt := 55) X d_MD_step_46 (by decide) ?_
          refine g_s (fun kk => lv_istore (lv' := [(5, .int (iZ (0))), (4, .int (iZ (1))), (0, .ref a), (1, .int (iZ (bi))), (2, .int (iZ (j))), (3, .int (iZ (z)))]) X.1 X.2.1 d_MD_step_55 hl (by decide) rfl kk) (fun ls hl => ?_)
          refine g_1 (fun w => lv_aload_n X.1 X.2.1 d_MD_step_57 rfl (lv_at hl 2 rfl) w) ?_
          refine g_1 (fun w => lv_iload X.1 X.2.1 d_MD_step_58 (lv_at hl 1 rfl) w) ?_
          refine g_1 (fun w => lv_iload X.1 X.2.1 d_MD_step_60 (lv_at hl 1 rfl) w) ?_
          refine g_if_ne (tgt := 74) X (by first | exact ok_if (k5 _) | exact ⟨by omega, by omega⟩ | (split <;> exact ⟨by omega, by omega⟩) | exact cmpZ_ok _ _ | exact mul_ok (by omega) (by omega) (by omega) (by omega)) d_MD_step_62 (by decide) (fun c62 => ?_) (fun c62 => ?_)
          · refine g_1 (fun w => lv_iconst (v := iZ 0) X.1 X.2.1 d_MD_step_74 rfl w) ?_
            refine g_callV (na := 2) X (c_MD_throwing B0 hm ⟨by omega, by omega⟩ ⟨by omega, by omega⟩ (t := 1) (by decide) (r := 1) (by decide)) rfl f0 rfl ⟨⟨tw_563, tw_5⟩, ⟨by decide, by decide, by decide +kernel⟩, by decide, by decide⟩ tw_560 tw_562 ts_MD_throwing rfl hl.1 (Nat.le_of_ble_eq_true rfl) ⟨by decide, by decide⟩ d_MD_step_75 (fun v h_5 hp => ?_)
            obtain ⟨rfl, hm, hkT⟩ := hp
            obtain ⟨p3, p4, p6, p7, p9, p10, p11, p12, p13, p14, f0, f3, f4, f6, f7, f9, f10, f11, f12, f13, f14⟩ := id hm
            refine g_widen (k' := 0) (n' := 0) (by decide) (by decide) ?_
            show G D s0 p l e _ s m _ below meth c h_5 _ _ _ (F0 m 78 ls [.int (iZ (1))])
            refine g_if_eq (tgt := 83) X (by first | exact ok_if (k5 _) | exact ⟨by omega, by omega⟩ | (split <;> exact ⟨by omega, by omega⟩) | exact cmpZ_ok _ _ | exact mul_ok (by omega) (by omega) (by omega) (by omega)) d_MD_step_78 (by decide) (fun c78 => ?_) (fun c78 => ?_)
            · exact absurd c78 (by decide)
            · refine g_1 (fun w => lv_iconst (v := iZ 0) X.1 X.2.1 d_MD_step_81 rfl w) ?_
              exact g_iret X (⟨1, 0, rfl, hm, hkT, Or.inl ⟨by have y := if_1 c25; omega, rfl⟩⟩) (by decide) (by decide) d_MD_step_82
          · exact absurd c62 (by decide)
        · exact absurd c37 (by decide)
