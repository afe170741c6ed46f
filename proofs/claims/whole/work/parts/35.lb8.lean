theorem isAL_up {D : va_G} {h h1 : gH} {a w x : Nat} {L : List Nat} {t : Nat × Nat} {e : va_E} {y : gE} (ha : isAL D h a w L) (hX : h x = some (t, e)) (h5 : t.1 ≠ 5) (h14 : t.1 ≠ 14) (e1 : h1 = g_up h x y) : isAL D h1 a w L := by
  obtain ⟨e2, mc, f1, hc⟩ := ha
  refine ⟨e2, mc, by rw [e1]; exact (g_un (g_ne f1 hX (fun z => h5 z.symm))).trans f1, ?_⟩
  rcases hc with z | ⟨cap, f, z1, z2⟩
  · exact Or.inl z
  · exact Or.inr ⟨cap, f, by rw [e1]; exact (g_un (g_ne z1 hX (fun z => h14 z.symm))).trans z1, z2⟩
theorem isAL_nw {D : va_G} {h h1 : gH} {a w x : Nat} {L : List Nat} {y : gE} (ha : isAL D h a w L) (hX : h x = none) (e1 : h1 = g_up h x y) : isAL D h1 a w L := by
  obtain ⟨e2, mc, f1, hc⟩ := ha
  refine ⟨e2, mc, by rw [e1]; exact g_uf f1 hX, ?_⟩
  rcases hc with z | ⟨cap, f, z1, z2⟩
  · exact Or.inl z
  · exact Or.inr ⟨cap, f, by rw [e1]; exact g_uf z1 hX, z2⟩
theorem isAL_ot {D : va_G} {h h1 : gH} {a w x w2 : Nat} {L : List Nat} {e : va_E} (ha : isAL D h a w L) (hX : h x = some ((5, w2), e)) (hw : w ≠ w2) (hk : kp (fun q _ => q = x) h h1) : isAL D h1 a w L := by
  obtain ⟨e2, mc, f1, hc⟩ := ha
  refine ⟨e2, mc, hk _ _ f1 (fun z => ?_), ?_⟩
  · subst z
    have y := f1.symm.trans hX
    simp only [Option.some.injEq, Prod.mk.injEq] at y
    exact hw y.1.2
  · rcases hc with z | ⟨cap, f, z1, z2⟩
    · exact Or.inl z
    · exact Or.inr ⟨cap, f, hk _ _ z1 (g_ne z1 hX (show (14 : Nat) ≠ 5 by decide)), z2⟩

set_option maxHeartbeats 4000000 in
set_option maxRecDepth 100000 in
theorem c_LB_init {D : va_G} {s0 : State} {l : Launch} {h : gH} (B0 : gB D s0) {x : Nat} (bs : Nat → Blk) (ys : Nat → Lay) (fA : h x = some ((3, 0), .inr (0, [.null, .null, .int (iZ 0), .int (iZ 0)]))) : gMet D s0 l y_LB_init b_LB_init 1 none ({ frames := 4, cells := 2, slots := 6, locals := 72 } : Room) [.ref x] h (fun v h' => none = v ∧ isLB D h' x [] bs [] ys 0 0 ∧ kp (fun q t => q = x) h h') := by
  refine g_enter B0 (plainFor_of_name (by decide)) (Nat.le_of_ble_eq_true rfl) (fun p e s m below meth c ls X hnm hl => ?_)
  have hl : lv_has ls 1 [(0, .ref x)] := hl
  refine g_1 (fun w => lv_aload_n X.1 X.2.1 d_LB_init_0 rfl (lv_at hl 0 rfl) w) ?_
  refine g_obj X tw_26 hl.1 d_LB_init_1 (by decide) (by decide) ?_
  refine g_1 (fun w => lv_aload_n X.1 X.2.1 d_LB_init_4 rfl (lv_at hl 0 rfl) w) ?_
  refine g_new X (ci := 3) rfl tw_29 tw_30 tw_4 (fs := [.null, .int (iZ (0)), .int (iZ (0))]) (fun j hj => by rcases (show j = 0 ∨ j = 1 ∨ j = 2 by omega) with rfl | rfl | rfl <;> rfl) (fun z => (5, 0)) (by decide) (by decide) d_LB_init_5 (fun na_1 hfna_1 => ?_)
  obtain ⟨h_2, eh_2⟩ : ∃ z, z = g_up h na_1 ((5, 0), .inr (3, [.null, .int (iZ (0)), .int (iZ (0))])) := ⟨_, rfl⟩
  refine g_h (h' := h_2) eh_2.symm ?_
  have f_3 : h_2 x = some ((3, 0), .inr (0, [.null, .null, .int (iZ (0)), .int (iZ (0))])) := by rw [eh_2]; exact g_uf fA hfna_1
  have f_4 : h_2 na_1 = some ((5, 0), .inr (3, [.null, .int (iZ (0)), .int (iZ (0))])) := by rw [eh_2]; exact g_us
  have hk_5 := kp_new (kp_rf (P := (fun q t => q = x)) (h := h)) eh_2 hfna_1
  refine g_1 (fun w => lv_dup X.1 X.2.1 d_LB_init_8 rfl w) ?_
  refine g_callI (na := 0) X (c_AL_init B0 f_4) rfl rfl ⟨⟨tw_33, tw_4⟩, ⟨by decide, by decide, by decide +kernel⟩, by decide, by decide⟩ tw_31 tw_32 rfl hl.1 (Nat.le_of_ble_eq_true rfl) ⟨by decide, by decide⟩ d_LB_init_9 (fun v h2 hp => ?_)
  obtain ⟨rfl, hA0, hq0⟩ := hp
  have gX0 := hq0 _ _ f_3 (g_ne f_3 f_4 (show (3 : Nat) ≠ 5 by decide))
  have hk0 : kp (fun q t => q = x) h h2 := fun q z hq hn => hq0 q z (hk_5 q z hq hn) (fun y => g_nz ((kp_rf (P := (fun q t => q = x)) (h := h)) q z hq hn) hfna_1 y)
  refine g_widen (k' := 0 + 1) (n' := 0 + 3) (by decide) (by decide) ?_
  show G D s0 p l e _ s m _ below meth c h2 _ _ _ (F0 m 12 ls [.ref na_1, .ref x])
  refine g_putF X hnm (ci := 0) rfl gX0 (Nat.succ_ne_zero _) 0 (by decide) ⟨rfl, rfl⟩ rfl tw_55 rfl rfl rfl (Nat.le_of_ble_eq_true rfl) d_LB_init_12 ?_
  obtain ⟨h_6, eh_6⟩ : ∃ z, z = g_up h2 x ((3, 0), .inr (0, [.ref na_1, .null, .int (iZ (0)), .int (iZ (0))])) := ⟨_, rfl⟩
  refine g_h (h' := h_6) eh_6.symm ?_
  have f_7 : h_6 x = some ((3, 0), .inr (0, [.ref na_1, .null, .int (iZ (0)), .int (iZ (0))])) := by rw [eh_6]; exact g_us
  have hk_8 := kp_up (hk0) eh_6 gX0 (rfl)
  have hA0 := isAL_up hA0 gX0 (show (3 : Nat) ≠ 5 by decide) (show (3 : Nat) ≠ 14 by decide) eh_6
  refine g_1 (fun w => lv_aload_n X.1 X.2.1 d_LB_init_15 rfl (lv_at hl 0 rfl) w) ?_
  refine g_new X (ci := 3) rfl tw_29 tw_30 tw_4 (fs := [.null, .int (iZ (0)), .int (iZ (0))]) (fun j hj => by rcases (show j = 0 ∨ j = 1 ∨ j = 2 by omega) with rfl | rfl | rfl <;> rfl) (fun z => (5, 1)) (by decide) (by decide) d_LB_init_16 (fun na_9 hfna_9 => ?_)
  obtain ⟨h_10, eh_10⟩ : ∃ z, z = g_up h_6 na_9 ((5, 1), .inr (3, [.null, .int (iZ (0)), .int (iZ (0))])) := ⟨_, rfl⟩
  refine g_h (h' := h_10) eh_10.symm ?_
  have f_11 : h_10 x = some ((3, 0), .inr (0, [.ref na_1, .null, .int (iZ (0)), .int (iZ (0))])) := by rw [eh_10]; exact g_uf f_7 hfna_9
  have f_12 : h_10 na_9 = some ((5, 1), .inr (3, [.null, .int (iZ (0)), .int (iZ (0))])) := by rw [eh_10]; exact g_us
  have hk_13 := kp_new (hk_8) eh_10 hfna_9
  refine g_1 (fun w => lv_dup X.1 X.2.1 d_LB_init_19 rfl w) ?_
  refine g_callI (na := 0) X (c_AL_init B0 f_12) rfl rfl ⟨⟨tw_33, tw_4⟩, ⟨by decide, by decide, by decide +kernel⟩, by decide, by decide⟩ tw_31 tw_32 rfl hl.1 (Nat.le_of_ble_eq_true rfl) ⟨by decide, by decide⟩ d_LB_init_20 (fun v h3 hp => ?_)
  obtain ⟨rfl, hA1, hq1⟩ := hp
  have gX1 := hq1 _ _ f_11 (g_ne f_11 f_12 (show (3 : Nat) ≠ 5 by decide))
  have hA0 := isAL_nw hA0 hfna_9 eh_10
  have hA0 := isAL_ot hA0 f_12 (by decide) hq1
  have hk1 : kp (fun q t => q = x) h h3 := fun q z hq hn => hq1 q z (hk_13 q z hq hn) (fun y => g_nz (hk_8 q z hq hn) hfna_9 y)
  refine g_widen (k' := 0 + 1 + 1) (n' := 0 + 3 + 3) (by decide) (by decide) ?_
  show G D s0 p l e _ s m _ below meth c h3 _ _ _ (F0 m 23 ls [.ref na_9, .ref x])
  refine g_putF X hnm (ci := 0) rfl gX1 (Nat.succ_ne_zero _) 1 (by decide) ⟨rfl, rfl⟩ rfl tw_56 rfl rfl rfl (Nat.le_of_ble_eq_true rfl) d_LB_init_23 ?_
  obtain ⟨h_14, eh_14⟩ : ∃ z, z = g_up h3 x ((3, 0), .inr (0, [.ref na_1, .ref na_9, .int (iZ (0)), .int (iZ (0))])) := ⟨_, rfl⟩
  refine g_h (h' := h_14) eh_14.symm ?_
  have f_15 : h_14 x = some ((3, 0), .inr (0, [.ref na_1, .ref na_9, .int (iZ (0)), .int (iZ (0))])) := by rw [eh_14]; exact g_us
  have hk_16 := kp_up (hk1) eh_14 gX1 (rfl)
  have hA0 := isAL_up hA0 gX1 (show (3 : Nat) ≠ 5 by decide) (show (3 : Nat) ≠ 14 by decide) eh_14
  have hA1 := isAL_up hA1 gX1 (show (3 : Nat) ≠ 5 by decide) (show (3 : Nat) ≠ 14 by decide) eh_14
  exact g_vret X (⟨rfl, ⟨na_1, na_9, f_15, hA0, hA1, fun i hi => absurd hi (Nat.not_lt_zero _), fun i hi => absurd hi (Nat.not_lt_zero _), List.nodup_nil, List.nodup_nil⟩, hk_16⟩) (by decide) (by decide) d_LB_init_26
