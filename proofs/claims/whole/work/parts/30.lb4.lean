theorem okB_rst {b : Blk} (h : okB b) : okB (rst b) := ⟨h.1, h.2.1, Nat.zero_le _, Nat.zero_le _, h.2.2.2.2⟩
theorem okB_tka {b : Blk} (h : okB b) : okB (tka b) := ⟨h.1, h.2.1, Nat.le_refl _, Nat.le_refl _, h.2.2.2.2⟩
theorem renew_P (b : Blk) : bP (renew b) = bP b := by
  unfold renew
  split <;> rfl
def sm (f : Nat → Int) : Nat → Int
  | 0 => 0
  | n + 1 => sm f n + f n
abbrev B_bad (A : List Nat) (i n g : Int) : Prop := ¬ (0 ≤ i ∧ i < A.length) ∨ n < 0 ∨ g < -274877906944 ∨ 274877906944 < g
abbrev B_full (b : Blk) (n pn : Int) : Prop := 16384 ≤ pn ∨ ¬ (bP b < 120 ∧ n + bB b (bP b) ≤ 65535)
theorem LY_neA {D : va_G} {h : gH} {x bl yl : Nat} {A Y : List Nat} {bs : Nat → Blk} {ys : Nat → Lay} {pn tb : Int} (hx : LBb D h x bl yl A bs Y ys pn tb) {a : Nat} {e : va_E} (ha : h a = some ((2, 0), e)) : a ∉ A := by
  intro z
  obtain ⟨i, hi, e⟩ := mem_getD z
  obtain ⟨p1, p2, p3, fA, -⟩ := hx.2.2.2.1 i hi
  rw [e] at fA
  cases ha.symm.trans fA
theorem BK_neY {D : va_G} {h : gH} {x bl yl : Nat} {A Y : List Nat} {bs : Nat → Blk} {ys : Nat → Lay} {pn tb : Int} (hx : LBb D h x bl yl A bs Y ys pn tb) {a : Nat} {e : va_E} (ha : h a = some ((1, 0), e)) : a ∉ Y := by
  intro z
  obtain ⟨i, hi, e⟩ := mem_getD z
  obtain ⟨p1, fA, -⟩ := hx.2.2.2.2.1 i hi
  rw [e] at fA
  cases ha.symm.trans fA

set_option maxHeartbeats 4000000 in
set_option maxRecDepth 100000 in
theorem c_LB_block {D : va_G} {s0 : State} {l : Launch} {h : gH} (B0 : gB D s0) (hfl : l.flags = flags0) {x : Nat} {A Y : List Nat} {bs : Nat → Blk} {ys : Nat → Lay} {pn tb : Int} (hx : isLB D h x A bs Y ys pn tb) (hAl : A.length ≤ 1024) (hYl : Y.length ≤ 64) (hbo : ∀ i, i < A.length → okB (bs i)) (hE : Y.length = 0 → tb = 0 ∧ ∀ i, i < A.length → bT (bs i) = 0 ∧ bL (bs i) = 0) : gMetX D s0 l y_LB_block b_LB_block 1 (some .int) ({ frames := 7, cells := 5, slots := 1970, locals := 171 } : Room) [.ref x] h (fun v h' => A.length < 1024 ∧ some (.int (iZ A.length)) = v ∧ ∃ b, isLB D h' x (A ++ [b]) (va_up (fun j => rst (bs j)) A.length newB) [] ys pn 0 ∧ kp P_LB h h') (fun C h' => C = "java/lang/IllegalStateException" ∧ ¬ A.length < 1024 ∧ h = h') := by
  obtain ⟨bl, yl, fX, hA, hY, hbs, hys, hnd, hnd2⟩ := id hx
  obtain ⟨eb, mb, fbl, -⟩ := id hA
  obtain ⟨ey, my, fyl, -⟩ := id hY
  refine g_enterX B0 (plainFor_of_name (by decide)) (Nat.le_of_ble_eq_true rfl) (fun p e s m below meth c ls X hxt hnm hl => ?_)
  have hl : lv_has ls 1 [(0, .ref x)] := hl
  refine g_1 (fun w => lv_aload_n X.1 X.2.1 d_LB_block_0 rfl (lv_at hl 0 rfl) w) ?_
  refine g_get X (ci := 0) rfl fX 0 (by decide) ⟨rfl, rfl⟩ tw_55 (Or.inl rfl) rfl d_LB_block_1 ?_
  refine g_callV (na := 0) X (c_AL_size B0 hA) rfl fbl rfl ⟨⟨tw_87, tw_4⟩, ⟨by decide, by decide, by decide +kernel⟩, by decide, by decide⟩ tw_84 tw_85 tw_86 rfl hl.1 (Nat.le_of_ble_eq_true rfl) ⟨by decide, by decide⟩ d_LB_block_4 (fun v h' hp => ?_)
  obtain ⟨rfl, rfl⟩ := hp
  refine g_widen (k' := 0) (n' := 0) (by decide) (by decide) ?_
  show G D s0 p l e _ s m _ below meth c h _ _ _ (F0 m 7 ls [.int (iZ (A.length))])
  refine g_1 (fun w => lv_sipush (v := iZ 1024) X.1 X.2.1 d_LB_block_7 (by decide) w) ?_
  refine g_icmp_lt (tgt := 23) X (by first | (split <;> exact ⟨by omega, by omega⟩) | exact ⟨by omega, by omega⟩ | exact cmpZ_ok _ _) (by first | (split <;> exact ⟨by omega, by omega⟩) | exact ⟨by omega, by omega⟩ | exact cmpZ_ok _ _) d_LB_block_10 (by decide) (fun c10 => ?_) (fun c10 => ?_)
  · refine g_1 (fun w => lv_aload_n X.1 X.2.1 d_LB_block_23 rfl (lv_at hl 0 rfl) w) ?_
    refine g_callV (na := 0) X (c_LB_dropLayers B0 hx hAl hYl hbo hE) rfl fX rfl ⟨⟨tw_75, tw_1⟩, ⟨by decide, by decide, by decide +kernel⟩, by decide, by decide⟩ tw_72 tw_74 ts_LB_dropLayers rfl hl.1 (Nat.le_of_ble_eq_true rfl) ⟨by decide, by decide⟩ d_LB_block_24 (fun v h' hp => ?_)
    obtain ⟨rfl, hx1, hk1⟩ := hp
    obtain ⟨bl, yl, fX, hA, hY, hbs, hys, hnd, hnd2⟩ := id hx1
    obtain ⟨eb, mb, fbl, -⟩ := id hA
    obtain ⟨ey, my, fyl, -⟩ := id hY
    refine g_widen (k' := 0) (n' := 0) (by decide) (by decide) ?_
    show G D s0 p l e _ s m _ below meth c h' _ _ _ (F0 m 27 ls [])
    have hx1 : LBb D h' x bl yl A (fun j => rst (bs j)) [] ys pn 0 := ⟨fX, hA, hY, hbs, hys, hnd, hnd2⟩
    refine g_1 (fun w => lv_aload_n X.1 X.2.1 d_LB_block_27 rfl (lv_at hl 0 rfl) w) ?_
    refine g_get X (ci := 0) rfl fX 0 (by decide) ⟨rfl, rfl⟩ tw_55 (Or.inl rfl) rfl d_LB_block_28 ?_
    refine g_new X (ci := 1) rfl tw_102 tw_106 tw_12 (fs := [.null, .null, .null, .int (iZ (0)), .int (iZ (0)), .int (iZ (0)), .int (iZ (0))]) (fun j hj => by rcases (show j = 0 ∨ j = 1 ∨ j = 2 ∨ j = 3 ∨ j = 4 ∨ j = 5 ∨ j = 6 by omega) with rfl | rfl | rfl | rfl | rfl | rfl | rfl <;> rfl) (fun z => (1, 0)) (by decide) (by decide) d_LB_block_31 (fun na_1 hfna_1 => ?_)
    obtain ⟨h_2, eh_2⟩ : ∃ z, z = g_up h' na_1 ((1, 0), .inr (1, [.null, .null, .null, .int (iZ (0)), .int (iZ (0)), .int (iZ (0)), .int (iZ (0))])) := ⟨_, rfl⟩
    refine g_h (h' := h_2) eh_2.symm ?_
    have f_3 : h_2 x = some ((3, 0), .inr (0, [.ref bl, .ref yl, .int (iZ (pn)), .int (iZ (0))])) := by rw [eh_2]; exact g_uf fX hfna_1
    have f_4 : h_2 bl = some ((5, 0), .inr (3, [.ref eb, .int (iZ (A.length)), .int (iZ (mb))])) := by rw [eh_2]; exact g_uf fbl hfna_1
    have f_5 : h_2 yl = some ((5, 1), .inr (3, [.ref ey, .int (iZ (([] : List Nat).length)), .int (iZ (my))])) := by rw [eh_2]; exact g_uf fyl hfna_1
    have f_6 : h_2 na_1 = some ((1, 0), .inr (1, [.null, .null, .null, .int (iZ (0)), .int (iZ (0)), .int (iZ (0)), .int (iZ (0))])) := by rw [eh_2]; exact g_us
    have hk_7 := kp_new (hk1) eh_2 hfna_1
    refine g_1 (fun w => lv_dup X.1 X.2.1 d_LB_block_34 rfl w) ?_
    refine g_callIN (na := 0) X (c_BK_init B0 f_6) rfl rfl ⟨⟨tw_190, tw_12⟩, ⟨by decide, by decide, by decide +kernel⟩, by decide, by decide⟩ tw_188 tw_189 rfl hl.1 (Nat.le_of_ble_eq_true rfl) ⟨by decide, by decide⟩ d_LB_block_35 (fun v h2 hp => ?_)
    obtain ⟨rfl, hb3, hk3⟩ := hp
    have hfr := LBb_fr hx1 hfna_1
    have hx2 : LBb D h_2 x bl yl A (fun j => rst (bs j)) [] ys pn 0 := LBb_kp (P := fun _ _ => False) hx1 (kp_new kp_rf eh_2 hfna_1) (fun _ _ _ _ z => z)
    have hx3 := LBb_out hx2 f_6 hfr.1 hfr.2 (Or.inl rfl) (kp_mo hk3 (fun q t z => Or.inl z))
    obtain ⟨fX3, hA3, -⟩ := id hx3
    obtain ⟨eb3, mb3, fbl3, -⟩ := id hA3
    obtain ⟨w1, w2, w3, fN3, -⟩ := id hb3
    have hkB : kp P_LB h h2 := fun q z hq hn => hk3 q z (hk_7 q z hq hn) (fun y => g_nz (hk1 q z hq hn) hfna_1 y)
    refine g_widen (k' := 0 + 1 + 3) (n' := 0 + 7 + 363) (by decide) (by decide) ?_
    show G D s0 p l e _ s m _ below meth c h2 _ _ _ (F0 m 38 ls [.ref na_1, .ref bl])
    refine g_callV (na := 1) X (c_AL_add1 B0 hA3 hAl (LBb_ob hx3).1 ⟨_, _, _, fN3, Or.inl rfl⟩) rfl fbl3 rfl ⟨⟨tw_222, tw_4⟩, ⟨by decide, by decide, by decide +kernel⟩, by decide, by decide⟩ tw_219 tw_220 tw_221 rfl hl.1 (Nat.le_of_ble_eq_true rfl) ⟨by decide, by decide⟩ d_LB_block_38 (fun v h4 hp => ?_)
    obtain ⟨rfl, hA5, hk5⟩ := hp
    have hx4 := LBb_addA hx3 hb3 hfr.1 hA5 hk5
    have hkC : kp P_LB h h4 := kp_tr hkB (kpA_LB hA3 hk5)
    obtain ⟨bl4, yl4, fX4, hA4, -⟩ := id hx4
    obtain ⟨eb4, mb4, fbl4, -⟩ := id hA4
    refine g_widen (k' := 0 + 1 + 3 + 1) (n' := 0 + 7 + 363 + 1600) (by decide) (by decide) ?_
    show G D s0 p l e _ s m _ below meth c h4 _ _ _ (F0 m 41 ls [.int (iZ (1))])
    refine g_1 (fun w => lv_pop X.1 X.2.1 d_LB_block_41 rfl w) ?_
    refine g_1 (fun w => lv_aload_n X.1 X.2.1 d_LB_block_42 rfl (lv_at hl 0 rfl) w) ?_
    refine g_get X (ci := 0) rfl fX4 0 (by decide) ⟨rfl, rfl⟩ tw_55 (Or.inl rfl) rfl d_LB_block_43 ?_
    refine g_callV (na := 0) X (c_AL_size B0 hA4) rfl fbl4 rfl ⟨⟨tw_87, tw_4⟩, ⟨by decide, by decide, by decide +kernel⟩, by decide, by decide⟩ tw_84 tw_85 tw_86 rfl hl.1 (Nat.le_of_ble_eq_true rfl) ⟨by decide, by decide⟩ d_LB_block_46 (fun v h' hp => ?_)
    obtain ⟨rfl, rfl⟩ := hp
    refine g_widen (k' := 0 + 1 + 3 + 1) (n' := 0 + 7 + 363 + 1600) (by decide) (by decide) ?_
    show G D s0 p l e _ s m _ below meth c h4 _ _ _ (F0 m 49 ls [.int (iZ ((A ++ [na_1]).length))])
    refine g_1 (fun w => lv_iconst (v := iZ 1) X.1 X.2.1 d_LB_block_49 rfl w) ?_
    refine g_isub X d_LB_block_50 ?_
    exact g_rx (g_iret X (⟨by omega, g_ei (by simp), _, hx4, hkC⟩) (by decide) (by decide) d_LB_block_51)
  · exact g_throw X hfl hxt (i1 := 33) (i2 := 35) (i3 := 37) g_oa_IS (by decide +kernel) tw_120 tw_121 tw_11 (tx := "there are 1024 blocks") (by decide) (⟨rfl, by omega, rfl⟩) hl.1 (by decide) (by decide) ⟨by decide, by decide⟩ ⟨by decide, by decide⟩ d_LB_block_13 d_LB_block_16 d_LB_block_17 d_LB_block_19 d_LB_block_22

set_option maxHeartbeats 4000000 in
set_option maxRecDepth 100000 in
theorem c_LB_pass {D : va_G} {s0 : State} {l : Launch} {h : gH} (B0 : gB D s0) (hfl : l.flags = flags0) {x : Nat} {A Y : List Nat} {bs : Nat → Blk} {ys : Nat → Lay} {pn tb : Int} (hx : isLB D h x A bs Y ys pn tb) (hAl : A.length ≤ 1024) (hYl : Y.length ≤ 64) (hbo : ∀ i, i < A.length → okB (bs i)) (hE : Y.length = 0 → tb = 0 ∧ ∀ i, i < A.length → bT (bs i) = 0 ∧ bL (bs i) = 0) {i n g : Int} (hi : i_ok i) (hn : i_ok n) (hg : l_ok g) (hpn : 0 ≤ pn ∧ pn ≤ 16384) (hap : ∀ b, b < A.length → bP (bs b) < 120 → 0 ≤ n → n + bB (bs b) (bP (bs b)) ≤ 65535 → -274877906944 ≤ g → g ≤ 274877906944 → okB (grown (rst (bs b)) n g) ∧ ∀ j, j < bS (bs b) → bB (grown (rst (bs b)) n g) (bC (bs b) j) ≤ bB (grown (rst (bs b)) n g) (bC (bs b) (j + 1)) ∧ bB (grown (rst (bs b)) n g) (bC (bs b) j) ≤ bB (grown (rst (bs b)) n g) (bP (bs b) + 1)) : gMetX D s0 l y_LB_pass b_LB_pass 6 (some .int) ({ frames := 6, cells := 1, slots := 6, locals := 117 } : Room) [.ref x, .int (iZ (i)), .int (iZ (n)), .long (lZ (g))] h (fun v h' => ∃ b : Nat, (b : Int) = i ∧ b < A.length ∧ 0 ≤ n ∧ -274877906944 ≤ g ∧ g ≤ 274877906944 ∧ pn < 16384 ∧ (bP (bs b) < 120 ∧ n + bB (bs b) (bP (bs b)) ≤ 65535) ∧ some (.int (iZ (bP (bs b) + 1))) = v ∧ isLB D h' x A (va_up (fun j => rst (bs j)) b (renew (grown (rst (bs b)) n g))) [] ys (pn + 1) 0 ∧ kp P_LB h h') (fun C h' => ((C = "java/lang/IllegalArgumentException" ∧ B_bad A i n g) ∨ (C = "java/lang/IllegalStateException" ∧ ¬ B_bad A i n g ∧ ∃ b : Nat, (b : Int) = i ∧ b < A.length ∧ B_full (bs b) n pn)) ∧ h = h') := by
  obtain ⟨bl, yl, fX, hA, hY, hbs, hys, hnd, hnd2⟩ := id hx
  obtain ⟨eb, mb, fbl, -⟩ := id hA
  obtain ⟨ey, my, fyl, -⟩ := id hY
  obtain ⟨hi1, hi2⟩ := id hi
  obtain ⟨hn1, hn2⟩ := id hn
  obtain ⟨hg1, hg2⟩ := id hg
  obtain ⟨hp1, hp2⟩ := id hpn
  refine g_enterX B0 (plainFor_of_name (by decide)) (Nat.le_of_ble_eq_true rfl) (fun p e s m below meth c ls X hxt hnm hl => ?_)
  have hl : lv_has ls 6 [(0, .ref x), (1, .int (iZ (i))), (2, .int (iZ (n))), (3, .long (lZ (g)))] := hl
  refine g_1 (fun w => lv_aload_n X.1 X.2.1 d_LB_pass_0 rfl (lv_at hl 0 rfl) w) ?_
  refine g_1 (fun w => lv_iload_n X.1 X.2.1 d_LB_pass_1 rfl (lv_at hl 1 rfl) w) ?_
  refine g_callV (na := 1) X (c_LB_hasBlock B0 hx hAl hYl ⟨by omega, by omega⟩) rfl fX rfl ⟨⟨tw_285, tw_1⟩, ⟨by decide, by decide, by decide +kernel⟩, by decide, by decide⟩ tw_282 tw_284 ts_LB_hasBlock rfl hl.1 (Nat.le_of_ble_eq_true rfl) ⟨by decide, by decide⟩ d_LB_pass_2 (fun v h' hp => ?_)
  obtain ⟨rfl, rfl⟩ := hp
  refine g_widen (k' := 0) (n' := 0) (by decide) (by decide) ?_
  show G D s0 p l e _ s m _ below meth c h _ _ _ (F0 m 5 ls [.int (iZ (if 0 ≤ i ∧ i < A.length then 1 else 0))])
  refine g_if_ne (tgt := 18) X (by first | (split <;> exact ⟨by omega, by omega⟩) | exact ⟨by omega, by omega⟩ | exact cmpZ_ok _ _) d_LB_pass_5 (by decide) (fun c5 => ?_) (fun c5 => ?_)
  · have hir := if_1 c5
    refine g_1 (fun w => lv_iload_n X.1 X.2.1 d_LB_pass_18 rfl (lv_at hl 2 rfl) w) ?_
    refine g_if_ge (tgt := 32) X (by first | (split <;> exact ⟨by omega, by omega⟩) | exact ⟨by omega, by omega⟩ | exact cmpZ_ok _ _) d_LB_pass_19 (by decide) (fun c19 => ?_) (fun c19 => ?_)
    · refine g_1 (fun w => lv_lload_n X.1 X.2.1 d_LB_pass_32 rfl (lv_at hl 3 rfl) w) ?_
      refine g_1 (fun w => lv_ldc2 X.1 X.2.1 X.2.2.2.2.2.1 (X.w tw_303 rfl) d_LB_pass_33 w) ?_
      refine g_tl (show _ = lZ (-274877906944) by decide) ?_
      refine g_lcmp X (by first | (split <;> exact ⟨by omega, by omega⟩) | exact ⟨by omega, by omega⟩ | exact cmpZ_ok _ _) (by first | (split <;> exact ⟨by omega, by omega⟩) | exact ⟨by omega, by omega⟩ | exact cmpZ_ok _ _) d_LB_pass_36 ?_
      refine g_if_lt (tgt := 48) X (cmpZ_ok _ _) d_LB_pass_37 (by decide) (fun c37 => ?_) (fun c37 => ?_)
      · exact g_throw X hfl hxt (i1 := 51) (i2 := 62) (i3 := 55) g_oa_IA (by decide +kernel) tw_286 tw_287 tw_17 (tx := "gain not within -2^38 .. 2^38") (by decide) (⟨Or.inl ⟨rfl, Or.inr (Or.inr (by first | exact Or.inr (cmpZ_gt.mp (by omega)) | exact Or.inl (by rcases (show g < -274877906944 ∨ -274877906944 ≤ g by omega) with z | z; exact z; have y := cmpZ_ge.mpr z; omega)))⟩, rfl⟩) hl.1 (by decide) (by decide) ⟨by decide, by decide⟩ ⟨by decide, by decide⟩ d_LB_pass_48 d_LB_pass_51 d_LB_pass_52 d_LB_pass_54 d_LB_pass_57
      · have hg3 : -274877906944 ≤ g := by have z := cmpZ_ge.mp c37; omega
        refine g_1 (fun w => lv_lload_n X.1 X.2.1 d_LB_pass_40 rfl (lv_at hl 3 rfl) w) ?_
        refine g_1 (fun w => lv_ldc2 X.1 X.2.1 X.2.2.2.2.2.1 (X.w tw_304 rfl) d_LB_pass_41 w) ?_
        refine g_tl (show _ = lZ (274877906944) by decide) ?_
        refine g_lcmp X (by first | (split <;> exact ⟨by omega, by omega⟩) | exact ⟨by omega, by omega⟩ | exact cmpZ_ok _ _) (by first | (split <;> exact ⟨by omega, by omega⟩) | exact ⟨by omega, by omega⟩ | exact cmpZ_ok _ _) d_LB_pass_44 ?_
        refine g_if_le (tgt := 58) X (cmpZ_ok _ _) d_LB_pass_45 (by decide) (fun c45 => ?_) (fun c45 => ?_)
        · have hg4 : g ≤ 274877906944 := by
            rcases (show 274877906944 < g ∨ g ≤ 274877906944 by omega) with z | z
            · have y := cmpZ_gt.mpr z; omega
            · exact z
          obtain ⟨bi, rfl, hbi⟩ : ∃ bi : Nat, (bi : Int) = i ∧ bi < A.length := ⟨i.toNat, by have z := if_1 c5; omega, by have z := if_1 c5; omega⟩
          obtain ⟨p1, p2, p3, fb, fB, fG, fC⟩ := id (hbs bi hbi)
          obtain ⟨k1, k2, k3, k4, k5, k6, k7, k8⟩ := id (hbo bi hbi)
          refine g_1 (fun w => lv_aload_n X.1 X.2.1 d_LB_pass_58 rfl (lv_at hl 0 rfl) w) ?_
          refine g_get X (ci := 0) rfl fX 0 (by decide) ⟨rfl, rfl⟩ tw_55 (Or.inl rfl) rfl d_LB_pass_59 ?_
          refine g_1 (fun w => lv_iload_n X.1 X.2.1 d_LB_pass_62 rfl (lv_at hl 1 rfl) w) ?_
          refine g_callV (na := 1) X (c_AL_get B0 hA bi (by omega)) rfl fbl rfl ⟨⟨tw_91, tw_4⟩, ⟨by decide, by decide, by decide +kernel⟩, by decide, by decide⟩ tw_88 tw_89 tw_90 rfl hl.1 (Nat.le_of_ble_eq_true rfl) ⟨by decide, by decide⟩ d_LB_pass_63 (fun v h' hp => ?_)
          obtain ⟨rfl, rfl⟩ := hp
          refine g_widen (k' := 0) (n' := 0) (by decide) (by decide) ?_
          show G D s0 p l e _ s m _ below meth c h _ _ _ (F0 m 66 ls [.ref (A.getD bi 0)])
          refine g_cast X fb rfl tw_102 tw_652 d_LB_pass_66 ?_
          refine g_s (fun kk => lv_astore (lv' := [(5, .ref (A.getD bi 0)), (0, .ref x), (1, .int (iZ (bi))), (2, .int (iZ (n))), (3, .long (lZ (g)))]) X.1 X.2.1 d_LB_pass_69 hl (by decide) rfl kk) (fun ls hl => ?_)
          refine g_1 (fun w => lv_aload_n X.1 X.2.1 d_LB_pass_71 rfl (lv_at hl 1 rfl) w) ?_
          refine g_get X (ci := 0) rfl fX 2 (by decide) ⟨rfl, rfl⟩ tw_57 (Or.inl rfl) rfl d_LB_pass_72 ?_
          refine g_1 (fun w => lv_sipush (v := iZ 16384) X.1 X.2.1 d_LB_pass_75 (by decide) w) ?_
          refine g_icmp_ge (tgt := 90) X (by first | (split <;> exact ⟨by omega, by omega⟩) | exact ⟨by omega, by omega⟩ | exact cmpZ_ok _ _) (by first | (split <;> exact ⟨by omega, by omega⟩) | exact ⟨by omega, by omega⟩ | exact cmpZ_ok _ _) d_LB_pass_78 (by decide) (fun c78 => ?_) (fun c78 => ?_)
          · exact g_throw X hfl hxt (i1 := 33) (i2 := 71) (i3 := 37) g_oa_IS (by decide +kernel) tw_120 tw_121 tw_11 (tx := "too many passes or bytes") (by decide) (⟨Or.inr ⟨rfl, by omega, bi, rfl, hbi, by first | exact Or.inl (by omega) | exact Or.inr (if_0 c87)⟩, rfl⟩) hl.1 (by decide) (by decide) ⟨by decide, by decide⟩ ⟨by decide, by decide⟩ d_LB_pass_90 d_LB_pass_93 d_LB_pass_94 d_LB_pass_96 d_LB_pass_99
          · refine g_1 (fun w => lv_aload X.1 X.2.1 d_LB_pass_81 (lv_at hl 0 rfl) w) ?_
            refine g_1 (fun w => lv_iload_n X.1 X.2.1 d_LB_pass_83 rfl (lv_at hl 3 rfl) w) ?_
            refine g_callVN (na := 1) X (c_BK_hasRoomFor B0 (hbs bi hbi) (hbo bi hbi) ⟨by omega, by omega⟩) rfl fb rfl ⟨⟨tw_309, tw_12⟩, ⟨by decide, by decide, by decide +kernel⟩, by decide, by decide⟩ tw_306 tw_308 ts_BK_hasRoomFor rfl hl.1 (Nat.le_of_ble_eq_true rfl) ⟨by decide, by decide⟩ d_LB_pass_84 (fun v h' hp => ?_)
            obtain ⟨rfl, rfl⟩ := hp
            refine g_widen (k' := 0) (n' := 0) (by decide) (by decide) ?_
            show G D s0 p l e _ s m _ below meth c h _ _ _ (F0 m 87 ls [.int (iZ (if bP (bs bi) < 120 ∧ n + bB (bs bi) (bP (bs bi)) ≤ 65535 then 1 else 0))])
            refine g_if_ne (tgt := 100) X (by first | (split <;> exact ⟨by omega, by omega⟩) | exact ⟨by omega, by omega⟩ | exact cmpZ_ok _ _) d_LB_pass_87 (by decide) (fun c87 => ?_) (fun c87 => ?_)
            · have hr := if_1 c87
              refine g_1 (fun w => lv_aload_n X.1 X.2.1 d_LB_pass_100 rfl (lv_at hl 1 rfl) w) ?_
              refine g_callV (na := 0) X (c_LB_dropLayers B0 hx hAl hYl hbo hE) rfl fX rfl ⟨⟨tw_75, tw_1⟩, ⟨by decide, by decide, by decide +kernel⟩, by decide, by decide⟩ tw_72 tw_74 ts_LB_dropLayers rfl hl.1 (Nat.le_of_ble_eq_true rfl) ⟨by decide, by decide⟩ d_LB_pass_101 (fun v h' hp => ?_)
              obtain ⟨rfl, hx1, hk1⟩ := hp
              obtain ⟨bl, yl, fX, hA, hY, hbs, hys, hnd, hnd2⟩ := id hx1
              obtain ⟨eb, mb, fbl, -⟩ := id hA
              obtain ⟨ey, my, fyl, -⟩ := id hY
              refine g_widen (k' := 0) (n' := 0) (by decide) (by decide) ?_
              show G D s0 p l e _ s m _ below meth c h' _ _ _ (F0 m 104 ls [])
              refine g_1 (fun w => lv_aload_n X.1 X.2.1 d_LB_pass_104 rfl (lv_at hl 1 rfl) w) ?_
              refine g_1 (fun w => lv_dup X.1 X.2.1 d_LB_pass_105 rfl w) ?_
              refine g_get X (ci := 0) rfl fX 2 (by decide) ⟨rfl, rfl⟩ tw_57 (Or.inl rfl) rfl d_LB_pass_106 ?_
              refine g_1 (fun w => lv_iconst (v := iZ 1) X.1 X.2.1 d_LB_pass_109 rfl w) ?_
              refine g_iadd X d_LB_pass_110 ?_
              refine g_put X (ci := 0) rfl fX (Nat.succ_ne_zero _) 2 (by decide) ⟨rfl, rfl⟩ tw_57 (Or.inl rfl) rfl rfl rfl (Nat.le_of_ble_eq_true rfl) d_LB_pass_111 ?_
              obtain ⟨h_1, eh_1⟩ : ∃ z, z = g_up h' x ((3, 0), .inr (0, [.ref bl, .ref yl, .int (iZ (pn + 1)), .int (iZ (0))])) := ⟨_, rfl⟩
              refine g_h (h' := h_1) eh_1.symm ?_
              have f_2 : h_1 x = some ((3, 0), .inr (0, [.ref bl, .ref yl, .int (iZ (pn + 1)), .int (iZ (0))])) := by rw [eh_1]; exact g_us
              have f_3 : h_1 bl = some ((5, 0), .inr (3, [.ref eb, .int (iZ (A.length)), .int (iZ (mb))])) := by rw [eh_1]; exact g_uk fbl fX (show (5 : Nat) ≠ 3 by decide)
              have f_4 : h_1 yl = some ((5, 1), .inr (3, [.ref ey, .int (iZ (([] : List Nat).length)), .int (iZ (my))])) := by rw [eh_1]; exact g_uk fyl fX (show (5 : Nat) ≠ 3 by decide)
              have hk_5 := kp_up (hk1) eh_1 fX (⟨Nat.le_of_ble_eq_true rfl, Nat.le_of_ble_eq_true rfl⟩)
              have hx2 := hx1.setX fX eh_1
              obtain ⟨bl2, yl2, -, -, -, hbs2, -⟩ := id hx2
              have hb2 : isBk D h_1 (A.getD bi 0) (rst (bs bi)) := hbs2 bi hbi
              obtain ⟨v1, v2, v3, fb2, -⟩ := id hb2
              refine g_1 (fun w => lv_aload X.1 X.2.1 d_LB_pass_114 (lv_at hl 0 rfl) w) ?_
              refine g_1 (fun w => lv_iload_n X.1 X.2.1 d_LB_pass_116 rfl (lv_at hl 3 rfl) w) ?_
              refine g_1 (fun w => lv_lload_n X.1 X.2.1 d_LB_pass_117 rfl (lv_at hl 4 rfl) w) ?_
              refine g_callVN (na := 2) X (c_BK_append B0 hb2 (okB_rst (hbo bi hbi)) hr.1 (hap bi hbi hr.1 c19 hr.2 hg3 hg4).1 (hap bi hbi hr.1 c19 hr.2 hg3 hg4).2) rfl fb2 rfl ⟨⟨tw_315, tw_12⟩, ⟨by decide, by decide, by decide +kernel⟩, by decide, by decide⟩ tw_312 tw_314 ts_BK_append rfl hl.1 (Nat.le_of_ble_eq_true rfl) ⟨by decide, by decide⟩ d_LB_pass_118 (fun v h3 hp => ?_)
              obtain ⟨rfl, hb3, hk3⟩ := hp
              have hx3 := hx2.setB hbi hb3 hk3
              have hk9 : kp P_LB h h3 := kp_tr hk_5 (kpB_LB hb2 hk3)
              obtain ⟨w1, w2, w3, fb3, -⟩ := id hb3
              refine g_widen (k' := 0) (n' := 0) (by decide) (by decide) ?_
              show G D s0 p l e _ s m _ below meth c h3 _ _ _ (F0 m 121 ls [])
              refine g_1 (fun w => lv_aload X.1 X.2.1 d_LB_pass_121 (lv_at hl 0 rfl) w) ?_
              refine g_getN X (ci := 1) rfl fb3 3 (by decide) ⟨rfl, rfl⟩ tw_196 rfl d_LB_pass_123 ?_
              exact g_rx (g_iret X (⟨bi, rfl, hbi, c19, hg3, hg4, by omega, hr, g_ei (by rw [renew_P]; rfl), hx3, hk9⟩) (by decide) (by decide) d_LB_pass_126)
            · exact g_throw X hfl hxt (i1 := 33) (i2 := 71) (i3 := 37) g_oa_IS (by decide +kernel) tw_120 tw_121 tw_11 (tx := "too many passes or bytes") (by decide) (⟨Or.inr ⟨rfl, by omega, bi, rfl, hbi, by first | exact Or.inl (by omega) | exact Or.inr (if_0 c87)⟩, rfl⟩) hl.1 (by decide) (by decide) ⟨by decide, by decide⟩ ⟨by decide, by decide⟩ d_LB_pass_90 d_LB_pass_93 d_LB_pass_94 d_LB_pass_96 d_LB_pass_99
        · exact g_throw X hfl hxt (i1 := 51) (i2 := 62) (i3 := 55) g_oa_IA (by decide +kernel) tw_286 tw_287 tw_17 (tx := "gain not within -2^38 .. 2^38") (by decide) (⟨Or.inl ⟨rfl, Or.inr (Or.inr (by first | exact Or.inr (cmpZ_gt.mp (by omega)) | exact Or.inl (by rcases (show g < -274877906944 ∨ -274877906944 ≤ g by omega) with z | z; exact z; have y := cmpZ_ge.mpr z; omega)))⟩, rfl⟩) hl.1 (by decide) (by decide) ⟨by decide, by decide⟩ ⟨by decide, by decide⟩ d_LB_pass_48 d_LB_pass_51 d_LB_pass_52 d_LB_pass_54 d_LB_pass_57
    · exact g_throw X hfl hxt (i1 := 51) (i2 := 56) (i3 := 55) g_oa_IA (by decide +kernel) tw_286 tw_287 tw_17 (tx := "bytes below 0") (by decide) (⟨Or.inl ⟨rfl, Or.inr (Or.inl (by omega))⟩, rfl⟩) hl.1 (by decide) (by decide) ⟨by decide, by decide⟩ ⟨by decide, by decide⟩ d_LB_pass_22 d_LB_pass_25 d_LB_pass_26 d_LB_pass_28 d_LB_pass_31
  · exact g_throw X hfl hxt (i1 := 51) (i2 := 53) (i3 := 55) g_oa_IA (by decide +kernel) tw_286 tw_287 tw_17 (tx := "no such block") (by decide) (⟨Or.inl ⟨rfl, Or.inl (if_0 c5)⟩, rfl⟩) hl.1 (by decide) (by decide) ⟨by decide, by decide⟩ ⟨by decide, by decide⟩ d_LB_pass_8 d_LB_pass_11 d_LB_pass_12 d_LB_pass_14 d_LB_pass_17
