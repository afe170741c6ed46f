theorem cmpZ_bd (a b : Int) : -1 ≤ cmpZ a b ∧ cmpZ a b ≤ 1 := by
  unfold cmpZ
  split
  · omega
  · split <;> omega
theorem cmpZ_self (a : Int) : cmpZ a a = 0 := cmpZ_eq.mpr rfl
theorem cR0 {g n k m : Int} (h : n = 0 ∨ m = 0) (e : n = m) : cmpZ (g * m) (k * n) = 0 := by
  obtain rfl : n = 0 := by omega
  subst e
  rw [Int.mul_zero, Int.mul_zero]
  exact cmpZ_self _
theorem cR1 {g n k m : Int} (e : n = 0) (hm : 0 < m) (hg : 0 < g) : cmpZ (g * m) (k * n) = 1 := by
  subst e
  rw [Int.mul_zero]
  have z := cmpZ_gt.mpr (Int.mul_pos hg hm)
  have y := cmpZ_bd (g * m) 0
  omega
theorem cR2 {g n k m : Int} (hn : 0 < n) (e : m = 0) (hk : 0 < k) : cmpZ (g * m) (k * n) = -1 := by
  subst e
  rw [Int.mul_zero]
  have z := Int.mul_pos hk hn
  have y := cmpZ_bd 0 (k * n)
  have x : ¬ 0 ≤ cmpZ 0 (k * n) := fun w => by have := cmpZ_ge.mp w; omega
  omega
def thr (f g : Int) : Int := if f ≠ 0 then 1 else if g ≠ 0 then 2 else 0
theorem thr_1 {f g : Int} (h : f ≠ 0) : thr f g = 1 := if_pos h
theorem thr_2 {f g : Int} (h : f = 0) (h2 : g ≠ 0) : thr f g = 2 := (if_neg (fun z => z h)).trans (if_pos h2)
theorem thr_0 {f g : Int} (h : f = 0) (h2 : g = 0) : thr f g = 0 := (if_neg (fun z => z h)).trans (if_neg (fun z => z h2))
theorem kp_MD_LB {D : va_G} {h h' : gH} {x : Nat} {A Y : List Nat} {bs : Nat → Blk} {ys : Nat → Lay} {pn tb : Int} (hx : isLB D h x A bs Y ys pn tb) (hk : kp P_MD h h') : isLB D h' x A bs Y ys pn tb := by
  obtain ⟨bl, yl, hx⟩ := hx
  refine ⟨bl, yl, LBb_kp hx hk (fun q t _ hc z => ?_)⟩
  have z1 := z.1
  rcases hc with y | y | y | y | y | y | y <;> omega
theorem kp_LB_MD {D : va_G} {h h' : gH} {a : Nat} {M : Mdl} (hm : isMD D h a M) (hk : kp P_LB h h') : isMD D h' a M := hm.kp hk (fun q t h1 h2 z => by have := z.2; omega)

set_option maxHeartbeats 4000000 in
set_option maxRecDepth 100000 in
theorem c_MD_out {D : va_G} {s0 : State} {l : Launch} {h : gH} (B0 : gB D s0) {i x y : Int} (hi : i_ok i) (hx : i_ok x) (hy : i_ok y) : gMet D s0 l y_MD_out b_MD_out 3 (some .boolean) ({ frames := 0, cells := 0, slots := 0, locals := 0 } : Room) [.int (iZ (i)), .int (iZ (x)), .int (iZ (y))] h (fun v h' => some (.int (iZ (if i < x ∨ y < i then 1 else 0))) = v ∧ h = h') := by
  obtain ⟨hi1, hi2⟩ := id hi
  obtain ⟨hx1, hx2⟩ := id hx
  obtain ⟨hy1, hy2⟩ := id hy
  refine g_enter B0 (plainFor_of_name (by decide)) (Nat.le_of_ble_eq_true rfl) (fun p e s m below meth c ls X hnm hl => ?_)
  have hl : lv_has ls 3 [(0, .int (iZ (i))), (1, .int (iZ (x))), (2, .int (iZ (y)))] := hl
  refine g_1 (fun w => lv_iload_n X.1 X.2.1 d_MD_out_0 rfl (lv_at hl 0 rfl) w) ?_
  refine g_1 (fun w => lv_iload_n X.1 X.2.1 d_MD_out_1 rfl (lv_at hl 1 rfl) w) ?_
  refine g_icmp_lt (tgt := 10) X (by first | exact ⟨by omega, by omega⟩ | (split <;> exact ⟨by omega, by omega⟩) | exact cmpZ_ok _ _ | exact mul_ok (by omega) (by omega) (by omega) (by omega)) (by first | exact ⟨by omega, by omega⟩ | (split <;> exact ⟨by omega, by omega⟩) | exact cmpZ_ok _ _ | exact mul_ok (by omega) (by omega) (by omega) (by omega)) d_MD_out_2 (by decide) (fun c2 => ?_) (fun c2 => ?_)
  · refine g_1 (fun w => lv_iconst (v := iZ 1) X.1 X.2.1 d_MD_out_10 rfl w) ?_
    refine g_goto (tgt := 15) X d_MD_out_11 (by decide) ?_
    exact g_zret X rfl (⟨g_ei (by split <;> omega), rfl⟩) (by decide) (by decide) d_MD_out_15
  · refine g_1 (fun w => lv_iload_n X.1 X.2.1 d_MD_out_5 rfl (lv_at hl 0 rfl) w) ?_
    refine g_1 (fun w => lv_iload_n X.1 X.2.1 d_MD_out_6 rfl (lv_at hl 2 rfl) w) ?_
    refine g_icmp_le (tgt := 14) X (by first | exact ⟨by omega, by omega⟩ | (split <;> exact ⟨by omega, by omega⟩) | exact cmpZ_ok _ _ | exact mul_ok (by omega) (by omega) (by omega) (by omega)) (by first | exact ⟨by omega, by omega⟩ | (split <;> exact ⟨by omega, by omega⟩) | exact cmpZ_ok _ _ | exact mul_ok (by omega) (by omega) (by omega) (by omega)) d_MD_out_7 (by decide) (fun c7 => ?_) (fun c7 => ?_)
    · refine g_1 (fun w => lv_iconst (v := iZ 0) X.1 X.2.1 d_MD_out_14 rfl w) ?_
      exact g_zret X rfl (⟨g_ei (by split <;> omega), rfl⟩) (by decide) (by decide) d_MD_out_15
    · refine g_1 (fun w => lv_iconst (v := iZ 1) X.1 X.2.1 d_MD_out_10 rfl w) ?_
      refine g_goto (tgt := 15) X d_MD_out_11 (by decide) ?_
      exact g_zret X rfl (⟨g_ei (by split <;> omega), rfl⟩) (by decide) (by decide) d_MD_out_15

set_option maxHeartbeats 4000000 in
set_option maxRecDepth 100000 in
theorem c_MD_compare {D : va_G} {s0 : State} {l : Launch} {h : gH} (B0 : gB D s0) {g n k q : Int} (hg : 0 < g) (hg2 : g ≤ 65970697666560) (hn : 0 ≤ n) (hn2 : n ≤ 65535) (hk : 0 < k) (hk2 : k ≤ 65970697666560) (hq : 0 ≤ q) (hq2 : q ≤ 65535) : gMet D s0 l y_MD_compare b_MD_compare 10 (some .int) ({ frames := 0, cells := 0, slots := 0, locals := 0 } : Room) [.long (lZ (g)), .int (iZ (n)), .long (lZ (k)), .int (iZ (q))] h (fun v h' => some (.int (iZ (cmpZ (g * q) (k * n)))) = v ∧ h = h') := by
  refine g_enter B0 (plainFor_of_name (by decide)) (Nat.le_of_ble_eq_true rfl) (fun p e s m below meth c ls X hnm hl => ?_)
  have hl : lv_has ls 10 [(0, .long (lZ (g))), (2, .int (iZ (n))), (3, .long (lZ (k))), (5, .int (iZ (q)))] := hl
  refine g_1 (fun w => lv_iload_n X.1 X.2.1 d_MD_compare_0 rfl (lv_at hl 1 rfl) w) ?_
  refine g_if_eq (tgt := 9) X (by first | exact ⟨by omega, by omega⟩ | (split <;> exact ⟨by omega, by omega⟩) | exact cmpZ_ok _ _ | exact mul_ok (by omega) (by omega) (by omega) (by omega)) d_MD_compare_1 (by decide) (fun c1 => ?_) (fun c1 => ?_)
  · refine g_1 (fun w => lv_iload_n X.1 X.2.1 d_MD_compare_9 rfl (lv_at hl 1 rfl) w) ?_
    refine g_1 (fun w => lv_iload X.1 X.2.1 d_MD_compare_10 (lv_at hl 3 rfl) w) ?_
    refine g_icmp_ne (tgt := 19) X (by first | exact ⟨by omega, by omega⟩ | (split <;> exact ⟨by omega, by omega⟩) | exact cmpZ_ok _ _ | exact mul_ok (by omega) (by omega) (by omega) (by omega)) (by first | exact ⟨by omega, by omega⟩ | (split <;> exact ⟨by omega, by omega⟩) | exact cmpZ_ok _ _ | exact mul_ok (by omega) (by omega) (by omega) (by omega)) d_MD_compare_12 (by decide) (fun c12 => ?_) (fun c12 => ?_)
    · refine g_1 (fun w => lv_iload_n X.1 X.2.1 d_MD_compare_19 rfl (lv_at hl 1 rfl) w) ?_
      refine g_if_ne (tgt := 27) X (by first | exact ⟨by omega, by omega⟩ | (split <;> exact ⟨by omega, by omega⟩) | exact cmpZ_ok _ _ | exact mul_ok (by omega) (by omega) (by omega) (by omega)) d_MD_compare_20 (by decide) (fun c20 => ?_) (fun c20 => ?_)
      · refine g_1 (fun w => lv_iconst (v := iZ (-1)) X.1 X.2.1 d_MD_compare_27 rfl w) ?_
        exact g_iret X (⟨g_ei (cR2 (by omega) (by omega) hk), rfl⟩) (by decide) (by decide) d_MD_compare_28
      · refine g_1 (fun w => lv_iconst (v := iZ 1) X.1 X.2.1 d_MD_compare_23 rfl w) ?_
        refine g_goto (tgt := 28) X d_MD_compare_24 (by decide) ?_
        exact g_iret X (⟨g_ei (cR1 c20 (by omega) hg), rfl⟩) (by decide) (by decide) d_MD_compare_28
    · refine g_1 (fun w => lv_iconst (v := iZ 0) X.1 X.2.1 d_MD_compare_15 rfl w) ?_
      refine g_goto (tgt := 28) X d_MD_compare_16 (by decide) ?_
      exact g_iret X (⟨g_ei (cR0 (by omega) c12), rfl⟩) (by decide) (by decide) d_MD_compare_28
  · refine g_1 (fun w => lv_iload X.1 X.2.1 d_MD_compare_4 (lv_at hl 3 rfl) w) ?_
    refine g_if_ne (tgt := 29) X (by first | exact ⟨by omega, by omega⟩ | (split <;> exact ⟨by omega, by omega⟩) | exact cmpZ_ok _ _ | exact mul_ok (by omega) (by omega) (by omega) (by omega)) d_MD_compare_6 (by decide) (fun c6 => ?_) (fun c6 => ?_)
    · refine g_1 (fun w => lv_lload_n X.1 X.2.1 d_MD_compare_29 rfl (lv_at hl 0 rfl) w) ?_
      refine g_1 (fun w => lv_iload X.1 X.2.1 d_MD_compare_30 (lv_at hl 3 rfl) w) ?_
      refine g_i2l X (by first | exact ⟨by omega, by omega⟩ | (split <;> exact ⟨by omega, by omega⟩) | exact cmpZ_ok _ _ | exact mul_ok (by omega) (by omega) (by omega) (by omega)) d_MD_compare_32 ?_
      refine g_lmul X d_MD_compare_33 ?_
      refine g_s (fun kk => lv_lstore (lv' := [(6, .long (lZ (g * q))), (0, .long (lZ (g))), (2, .int (iZ (n))), (3, .long (lZ (k))), (5, .int (iZ (q)))]) X.1 X.2.1 d_MD_compare_34 hl (by decide) rfl kk) (fun ls hl => ?_)
      refine g_1 (fun w => lv_lload_n X.1 X.2.1 d_MD_compare_36 rfl (lv_at hl 3 rfl) w) ?_
      refine g_1 (fun w => lv_iload_n X.1 X.2.1 d_MD_compare_37 rfl (lv_at hl 2 rfl) w) ?_
      refine g_i2l X (by first | exact ⟨by omega, by omega⟩ | (split <;> exact ⟨by omega, by omega⟩) | exact cmpZ_ok _ _ | exact mul_ok (by omega) (by omega) (by omega) (by omega)) d_MD_compare_38 ?_
      refine g_lmul X d_MD_compare_39 ?_
      refine g_s (fun kk => lv_lstore (lv' := [(8, .long (lZ (k * n))), (6, .long (lZ (g * q))), (0, .long (lZ (g))), (2, .int (iZ (n))), (3, .long (lZ (k))), (5, .int (iZ (q)))]) X.1 X.2.1 d_MD_compare_40 hl (by decide) rfl kk) (fun ls hl => ?_)
      refine g_1 (fun w => lv_lload X.1 X.2.1 d_MD_compare_42 (lv_at hl 1 rfl) w) ?_
      refine g_1 (fun w => lv_lload X.1 X.2.1 d_MD_compare_44 (lv_at hl 0 rfl) w) ?_
      refine g_lcmp X (by first | exact ⟨by omega, by omega⟩ | (split <;> exact ⟨by omega, by omega⟩) | exact cmpZ_ok _ _ | exact mul_ok (by omega) (by omega) (by omega) (by omega)) (by first | exact ⟨by omega, by omega⟩ | (split <;> exact ⟨by omega, by omega⟩) | exact cmpZ_ok _ _ | exact mul_ok (by omega) (by omega) (by omega) (by omega)) d_MD_compare_46 ?_
      refine g_if_ge (tgt := 54) X (cmpZ_ok _ _) d_MD_compare_47 (by decide) (fun c47 => ?_) (fun c47 => ?_)
      · refine g_1 (fun w => lv_lload X.1 X.2.1 d_MD_compare_54 (lv_at hl 1 rfl) w) ?_
        refine g_1 (fun w => lv_lload X.1 X.2.1 d_MD_compare_56 (lv_at hl 0 rfl) w) ?_
        refine g_lcmp X (by first | exact ⟨by omega, by omega⟩ | (split <;> exact ⟨by omega, by omega⟩) | exact cmpZ_ok _ _ | exact mul_ok (by omega) (by omega) (by omega) (by omega)) (by first | exact ⟨by omega, by omega⟩ | (split <;> exact ⟨by omega, by omega⟩) | exact cmpZ_ok _ _ | exact mul_ok (by omega) (by omega) (by omega) (by omega)) d_MD_compare_58 ?_
        refine g_if_le (tgt := 66) X (cmpZ_ok _ _) d_MD_compare_59 (by decide) (fun c59 => ?_) (fun c59 => ?_)
        · refine g_1 (fun w => lv_iconst (v := iZ 0) X.1 X.2.1 d_MD_compare_66 rfl w) ?_
          exact g_iret X (⟨g_ei (by have z := cmpZ_bd (g * q) (k * n); omega), rfl⟩) (by decide) (by decide) d_MD_compare_67
        · refine g_1 (fun w => lv_iconst (v := iZ 1) X.1 X.2.1 d_MD_compare_62 rfl w) ?_
          refine g_goto (tgt := 67) X d_MD_compare_63 (by decide) ?_
          exact g_iret X (⟨g_ei (by have z := cmpZ_bd (g * q) (k * n); omega), rfl⟩) (by decide) (by decide) d_MD_compare_67
      · refine g_1 (fun w => lv_iconst (v := iZ (-1)) X.1 X.2.1 d_MD_compare_50 rfl w) ?_
        refine g_goto (tgt := 67) X d_MD_compare_51 (by decide) ?_
        exact g_iret X (⟨g_ei (by have z := cmpZ_bd (g * q) (k * n); omega), rfl⟩) (by decide) (by decide) d_MD_compare_67
    · refine g_1 (fun w => lv_iload_n X.1 X.2.1 d_MD_compare_9 rfl (lv_at hl 1 rfl) w) ?_
      refine g_1 (fun w => lv_iload X.1 X.2.1 d_MD_compare_10 (lv_at hl 3 rfl) w) ?_
      refine g_icmp_ne (tgt := 19) X (by first | exact ⟨by omega, by omega⟩ | (split <;> exact ⟨by omega, by omega⟩) | exact cmpZ_ok _ _ | exact mul_ok (by omega) (by omega) (by omega) (by omega)) (by first | exact ⟨by omega, by omega⟩ | (split <;> exact ⟨by omega, by omega⟩) | exact cmpZ_ok _ _ | exact mul_ok (by omega) (by omega) (by omega) (by omega)) d_MD_compare_12 (by decide) (fun c12 => ?_) (fun c12 => ?_)
      · refine g_1 (fun w => lv_iload_n X.1 X.2.1 d_MD_compare_19 rfl (lv_at hl 1 rfl) w) ?_
        refine g_if_ne (tgt := 27) X (by first | exact ⟨by omega, by omega⟩ | (split <;> exact ⟨by omega, by omega⟩) | exact cmpZ_ok _ _ | exact mul_ok (by omega) (by omega) (by omega) (by omega)) d_MD_compare_20 (by decide) (fun c20 => ?_) (fun c20 => ?_)
        · refine g_1 (fun w => lv_iconst (v := iZ (-1)) X.1 X.2.1 d_MD_compare_27 rfl w) ?_
          exact g_iret X (⟨g_ei (cR2 (by omega) (by omega) hk), rfl⟩) (by decide) (by decide) d_MD_compare_28
        · refine g_1 (fun w => lv_iconst (v := iZ 1) X.1 X.2.1 d_MD_compare_23 rfl w) ?_
          refine g_goto (tgt := 28) X d_MD_compare_24 (by decide) ?_
          exact g_iret X (⟨g_ei (cR1 c20 (by omega) hg), rfl⟩) (by decide) (by decide) d_MD_compare_28
      · refine g_1 (fun w => lv_iconst (v := iZ 0) X.1 X.2.1 d_MD_compare_15 rfl w) ?_
        refine g_goto (tgt := 28) X d_MD_compare_16 (by decide) ?_
        exact g_iret X (⟨g_ei (cR0 (by omega) c12), rfl⟩) (by decide) (by decide) d_MD_compare_28

set_option maxHeartbeats 4000000 in
set_option maxRecDepth 100000 in
theorem c_MD_thrown {D : va_G} {s0 : State} {l : Launch} {h : gH} (B0 : gB D s0) {a : Nat} {M : Mdl} (hm : isMD D h a M) : gMet D s0 l y_MD_thrown b_MD_thrown 1 (some .int) ({ frames := 0, cells := 0, slots := 0, locals := 0 } : Room) [.ref a] h (fun v h' => some (.int (iZ (mT M))) = v ∧ h = h') := by
  obtain ⟨p3, p4, p6, p7, p9, p10, p11, p12, p13, p14, f0, f3, f4, f6, f7, f9, f10, f11, f12, f13, f14⟩ := id hm
  refine g_enter B0 (plainFor_of_name (by decide)) (Nat.le_of_ble_eq_true rfl) (fun p e s m below meth c ls X hnm hl => ?_)
  have hl : lv_has ls 1 [(0, .ref a)] := hl
  refine g_1 (fun w => lv_aload_n X.1 X.2.1 d_MD_thrown_0 rfl (lv_at hl 0 rfl) w) ?_
  refine g_get X (ci := 4) rfl f0 0 (by decide) ⟨rfl, rfl⟩ tw_502 (Or.inl rfl) rfl d_MD_thrown_1 ?_
  exact g_iret X (⟨rfl, rfl⟩) (by decide) (by decide) d_MD_thrown_4

set_option maxHeartbeats 4000000 in
set_option maxRecDepth 100000 in
theorem c_MD_clear {D : va_G} {s0 : State} {l : Launch} {h : gH} (B0 : gB D s0) {a : Nat} {M : Mdl} (hm : isMD D h a M) : gMet D s0 l y_MD_clear b_MD_clear 1 none ({ frames := 0, cells := 0, slots := 0, locals := 0 } : Room) [.ref a] h (fun v h' => none = v ∧ isMD D h' a (0, 0, 0, 0, 0, M.2.2.2.2.2) ∧ kp P_MD h h') := by
  obtain ⟨p3, p4, p6, p7, p9, p10, p11, p12, p13, p14, f0, f3, f4, f6, f7, f9, f10, f11, f12, f13, f14⟩ := id hm
  refine g_enter B0 (plainFor_of_name (by decide)) (Nat.le_of_ble_eq_true rfl) (fun p e s m below meth c ls X hnm hl => ?_)
  have hl : lv_has ls 1 [(0, .ref a)] := hl
  refine g_1 (fun w => lv_aload_n X.1 X.2.1 d_MD_clear_0 rfl (lv_at hl 0 rfl) w) ?_
  refine g_1 (fun w => lv_iconst (v := iZ 0) X.1 X.2.1 d_MD_clear_1 rfl w) ?_
  refine g_put X (ci := 4) rfl f0 (Nat.succ_ne_zero _) 0 (by decide) ⟨rfl, rfl⟩ tw_502 (Or.inl rfl) rfl rfl rfl (Nat.le_of_ble_eq_true rfl) d_MD_clear_2 ?_
  obtain ⟨h_1, eh_1⟩ : ∃ z, z = g_up h a ((20, 0), .inr (4, [.int (iZ (0)), .int (iZ (mN M)), .int (iZ (mA M)), .ref p3, .ref p4, .int (iZ (mU M)), .ref p6, .ref p7, .int (iZ (mY M)), .ref p9, .ref p10, .ref p11, .ref p12, .ref p13, .ref p14])) := ⟨_, rfl⟩
  refine g_h (h' := h_1) eh_1.symm ?_
  have f_2 : h_1 a = some ((20, 0), .inr (4, [.int (iZ (0)), .int (iZ (mN M)), .int (iZ (mA M)), .ref p3, .ref p4, .int (iZ (mU M)), .ref p6, .ref p7, .int (iZ (mY M)), .ref p9, .ref p10, .ref p11, .ref p12, .ref p13, .ref p14])) := by rw [eh_1]; exact g_us
  have f_3 : h_1 p3 = some ((21, a), gI D 1024 (aP M)) := by rw [eh_1]; exact g_uk f3 f0 (show (21 : Nat) ≠ 20 by decide)
  have f_4 : h_1 p4 = some ((22, a), gI D 1024 (aB M)) := by rw [eh_1]; exact g_uk f4 f0 (show (22 : Nat) ≠ 20 by decide)
  have f_5 : h_1 p6 = some ((23, a), gI D 17408 (aY M)) := by rw [eh_1]; exact g_uk f6 f0 (show (23 : Nat) ≠ 20 by decide)
  have f_6 : h_1 p7 = some ((24, a), gL D 17408 (aG M)) := by rw [eh_1]; exact g_uk f7 f0 (show (24 : Nat) ≠ 20 by decide)
  have f_7 : h_1 p9 = some ((25, a), gI D 65536 (aC M)) := by rw [eh_1]; exact g_uk f9 f0 (show (25 : Nat) ≠ 20 by decide)
  have f_8 : h_1 p10 = some ((26, a), gI D 64 (aT M)) := by rw [eh_1]; exact g_uk f10 f0 (show (26 : Nat) ≠ 20 by decide)
  have f_9 : h_1 p11 = some ((27, a), gL D 64 (aL M)) := by rw [eh_1]; exact g_uk f11 f0 (show (27 : Nat) ≠ 20 by decide)
  have f_10 : h_1 p12 = some ((28, a), gI D 64 (aM M)) := by rw [eh_1]; exact g_uk f12 f0 (show (28 : Nat) ≠ 20 by decide)
  have f_11 : h_1 p13 = some ((29, a), gI D 1024 (aK M)) := by rw [eh_1]; exact g_uk f13 f0 (show (29 : Nat) ≠ 20 by decide)
  have f_12 : h_1 p14 = some ((30, a), gI D 1024 (aX M)) := by rw [eh_1]; exact g_uk f14 f0 (show (30 : Nat) ≠ 20 by decide)
  have hk_13 := kp_up (kp_rf (P := P_MD) (h := h)) eh_1 f0 (⟨Nat.le_of_ble_eq_true rfl, Nat.le_of_ble_eq_true rfl⟩)
  refine g_1 (fun w => lv_aload_n X.1 X.2.1 d_MD_clear_5 rfl (lv_at hl 0 rfl) w) ?_
  refine g_1 (fun w => lv_iconst (v := iZ 0) X.1 X.2.1 d_MD_clear_6 rfl w) ?_
  refine g_put X (ci := 4) rfl f_2 (Nat.succ_ne_zero _) 1 (by decide) ⟨rfl, rfl⟩ tw_503 (Or.inl rfl) rfl rfl rfl (Nat.le_of_ble_eq_true rfl) d_MD_clear_7 ?_
  obtain ⟨h_14, eh_14⟩ : ∃ z, z = g_up h_1 a ((20, 0), .inr (4, [.int (iZ (0)), .int (iZ (0)), .int (iZ (mA M)), .ref p3, .ref p4, .int (iZ (mU M)), .ref p6, .ref p7, .int (iZ (mY M)), .ref p9, .ref p10, .ref p11, .ref p12, .ref p13, .ref p14])) := ⟨_, rfl⟩
  refine g_h (h' := h_14) eh_14.symm ?_
  have f_15 : h_14 a = some ((20, 0), .inr (4, [.int (iZ (0)), .int (iZ (0)), .int (iZ (mA M)), .ref p3, .ref p4, .int (iZ (mU M)), .ref p6, .ref p7, .int (iZ (mY M)), .ref p9, .ref p10, .ref p11, .ref p12, .ref p13, .ref p14])) := by rw [eh_14]; exact g_us
  have f_16 : h_14 p3 = some ((21, a), gI D 1024 (aP M)) := by rw [eh_14]; exact g_uk f_3 f_2 (show (21 : Nat) ≠ 20 by decide)
  have f_17 : h_14 p4 = some ((22, a), gI D 1024 (aB M)) := by rw [eh_14]; exact g_uk f_4 f_2 (show (22 : Nat) ≠ 20 by decide)
  have f_18 : h_14 p6 = some ((23, a), gI D 17408 (aY M)) := by rw [eh_14]; exact g_uk f_5 f_2 (show (23 : Nat) ≠ 20 by decide)
  have f_19 : h_14 p7 = some ((24, a), gL D 17408 (aG M)) := by rw [eh_14]; exact g_uk f_6 f_2 (show (24 : Nat) ≠ 20 by decide)
  have f_20 : h_14 p9 = some ((25, a), gI D 65536 (aC M)) := by rw [eh_14]; exact g_uk f_7 f_2 (show (25 : Nat) ≠ 20 by decide)
  have f_21 : h_14 p10 = some ((26, a), gI D 64 (aT M)) := by rw [eh_14]; exact g_uk f_8 f_2 (show (26 : Nat) ≠ 20 by decide)
  have f_22 : h_14 p11 = some ((27, a), gL D 64 (aL M)) := by rw [eh_14]; exact g_uk f_9 f_2 (show (27 : Nat) ≠ 20 by decide)
  have f_23 : h_14 p12 = some ((28, a), gI D 64 (aM M)) := by rw [eh_14]; exact g_uk f_10 f_2 (show (28 : Nat) ≠ 20 by decide)
  have f_24 : h_14 p13 = some ((29, a), gI D 1024 (aK M)) := by rw [eh_14]; exact g_uk f_11 f_2 (show (29 : Nat) ≠ 20 by decide)
  have f_25 : h_14 p14 = some ((30, a), gI D 1024 (aX M)) := by rw [eh_14]; exact g_uk f_12 f_2 (show (30 : Nat) ≠ 20 by decide)
  have hk_26 := kp_up (hk_13) eh_14 f_2 (⟨Nat.le_of_ble_eq_true rfl, Nat.le_of_ble_eq_true rfl⟩)
  refine g_1 (fun w => lv_aload_n X.1 X.2.1 d_MD_clear_10 rfl (lv_at hl 0 rfl) w) ?_
  refine g_1 (fun w => lv_iconst (v := iZ 0) X.1 X.2.1 d_MD_clear_11 rfl w) ?_
  refine g_put X (ci := 4) rfl f_15 (Nat.succ_ne_zero _) 2 (by decide) ⟨rfl, rfl⟩ tw_504 (Or.inl rfl) rfl rfl rfl (Nat.le_of_ble_eq_true rfl) d_MD_clear_12 ?_
  obtain ⟨h_27, eh_27⟩ : ∃ z, z = g_up h_14 a ((20, 0), .inr (4, [.int (iZ (0)), .int (iZ (0)), .int (iZ (0)), .ref p3, .ref p4, .int (iZ (mU M)), .ref p6, .ref p7, .int (iZ (mY M)), .ref p9, .ref p10, .ref p11, .ref p12, .ref p13, .ref p14])) := ⟨_, rfl⟩
  refine g_h (h' := h_27) eh_27.symm ?_
  have f_28 : h_27 a = some ((20, 0), .inr (4, [.int (iZ (0)), .int (iZ (0)), .int (iZ (0)), .ref p3, .ref p4, .int (iZ (mU M)), .ref p6, .ref p7, .int (iZ (mY M)), .ref p9, .ref p10, .ref p11, .ref p12, .ref p13, .ref p14])) := by rw [eh_27]; exact g_us
  have f_29 : h_27 p3 = some ((21, a), gI D 1024 (aP M)) := by rw [eh_27]; exact g_uk f_16 f_15 (show (21 : Nat) ≠ 20 by decide)
  have f_30 : h_27 p4 = some ((22, a), gI D 1024 (aB M)) := by rw [eh_27]; exact g_uk f_17 f_15 (show (22 : Nat) ≠ 20 by decide)
  have f_31 : h_27 p6 = some ((23, a), gI D 17408 (aY M)) := by rw [eh_27]; exact g_uk f_18 f_15 (show (23 : Nat) ≠ 20 by decide)
  have f_32 : h_27 p7 = some ((24, a), gL D 17408 (aG M)) := by rw [eh_27]; exact g_uk f_19 f_15 (show (24 : Nat) ≠ 20 by decide)
  have f_33 : h_27 p9 = some ((25, a), gI D 65536 (aC M)) := by rw [eh_27]; exact g_uk f_20 f_15 (show (25 : Nat) ≠ 20 by decide)
  have f_34 : h_27 p10 = some ((26, a), gI D 64 (aT M)) := by rw [eh_27]; exact g_uk f_21 f_15 (show (26 : Nat) ≠ 20 by decide)
  have f_35 : h_27 p11 = some ((27, a), gL D 64 (aL M)) := by rw [eh_27]; exact g_uk f_22 f_15 (show (27 : Nat) ≠ 20 by decide)
  have f_36 : h_27 p12 = some ((28, a), gI D 64 (aM M)) := by rw [eh_27]; exact g_uk f_23 f_15 (show (28 : Nat) ≠ 20 by decide)
  have f_37 : h_27 p13 = some ((29, a), gI D 1024 (aK M)) := by rw [eh_27]; exact g_uk f_24 f_15 (show (29 : Nat) ≠ 20 by decide)
  have f_38 : h_27 p14 = some ((30, a), gI D 1024 (aX M)) := by rw [eh_27]; exact g_uk f_25 f_15 (show (30 : Nat) ≠ 20 by decide)
  have hk_39 := kp_up (hk_26) eh_27 f_15 (⟨Nat.le_of_ble_eq_true rfl, Nat.le_of_ble_eq_true rfl⟩)
  refine g_1 (fun w => lv_aload_n X.1 X.2.1 d_MD_clear_15 rfl (lv_at hl 0 rfl) w) ?_
  refine g_1 (fun w => lv_iconst (v := iZ 0) X.1 X.2.1 d_MD_clear_16 rfl w) ?_
  refine g_put X (ci := 4) rfl f_28 (Nat.succ_ne_zero _) 5 (by decide) ⟨rfl, rfl⟩ tw_507 (Or.inl rfl) rfl rfl rfl (Nat.le_of_ble_eq_true rfl) d_MD_clear_17 ?_
  obtain ⟨h_40, eh_40⟩ : ∃ z, z = g_up h_27 a ((20, 0), .inr (4, [.int (iZ (0)), .int (iZ (0)), .int (iZ (0)), .ref p3, .ref p4, .int (iZ (0)), .ref p6, .ref p7, .int (iZ (mY M)), .ref p9, .ref p10, .ref p11, .ref p12, .ref p13, .ref p14])) := ⟨_, rfl⟩
  refine g_h (h' := h_40) eh_40.symm ?_
  have f_41 : h_40 a = some ((20, 0), .inr (4, [.int (iZ (0)), .int (iZ (0)), .int (iZ (0)), .ref p3, .ref p4, .int (iZ (0)), .ref p6, .ref p7, .int (iZ (mY M)), .ref p9, .ref p10, .ref p11, .ref p12, .ref p13, .ref p14])) := by rw [eh_40]; exact g_us
  have f_42 : h_40 p3 = some ((21, a), gI D 1024 (aP M)) := by rw [eh_40]; exact g_uk f_29 f_28 (show (21 : Nat) ≠ 20 by decide)
  have f_43 : h_40 p4 = some ((22, a), gI D 1024 (aB M)) := by rw [eh_40]; exact g_uk f_30 f_28 (show (22 : Nat) ≠ 20 by decide)
  have f_44 : h_40 p6 = some ((23, a), gI D 17408 (aY M)) := by rw [eh_40]; exact g_uk f_31 f_28 (show (23 : Nat) ≠ 20 by decide)
  have f_45 : h_40 p7 = some ((24, a), gL D 17408 (aG M)) := by rw [eh_40]; exact g_uk f_32 f_28 (show (24 : Nat) ≠ 20 by decide)
  have f_46 : h_40 p9 = some ((25, a), gI D 65536 (aC M)) := by rw [eh_40]; exact g_uk f_33 f_28 (show (25 : Nat) ≠ 20 by decide)
  have f_47 : h_40 p10 = some ((26, a), gI D 64 (aT M)) := by rw [eh_40]; exact g_uk f_34 f_28 (show (26 : Nat) ≠ 20 by decide)
  have f_48 : h_40 p11 = some ((27, a), gL D 64 (aL M)) := by rw [eh_40]; exact g_uk f_35 f_28 (show (27 : Nat) ≠ 20 by decide)
  have f_49 : h_40 p12 = some ((28, a), gI D 64 (aM M)) := by rw [eh_40]; exact g_uk f_36 f_28 (show (28 : Nat) ≠ 20 by decide)
  have f_50 : h_40 p13 = some ((29, a), gI D 1024 (aK M)) := by rw [eh_40]; exact g_uk f_37 f_28 (show (29 : Nat) ≠ 20 by decide)
  have f_51 : h_40 p14 = some ((30, a), gI D 1024 (aX M)) := by rw [eh_40]; exact g_uk f_38 f_28 (show (30 : Nat) ≠ 20 by decide)
  have hk_52 := kp_up (hk_39) eh_40 f_28 (⟨Nat.le_of_ble_eq_true rfl, Nat.le_of_ble_eq_true rfl⟩)
  refine g_1 (fun w => lv_aload_n X.1 X.2.1 d_MD_clear_20 rfl (lv_at hl 0 rfl) w) ?_
  refine g_1 (fun w => lv_iconst (v := iZ 0) X.1 X.2.1 d_MD_clear_21 rfl w) ?_
  refine g_put X (ci := 4) rfl f_41 (Nat.succ_ne_zero _) 8 (by decide) ⟨rfl, rfl⟩ tw_510 (Or.inl rfl) rfl rfl rfl (Nat.le_of_ble_eq_true rfl) d_MD_clear_22 ?_
  obtain ⟨h_53, eh_53⟩ : ∃ z, z = g_up h_40 a ((20, 0), .inr (4, [.int (iZ (0)), .int (iZ (0)), .int (iZ (0)), .ref p3, .ref p4, .int (iZ (0)), .ref p6, .ref p7, .int (iZ (0)), .ref p9, .ref p10, .ref p11, .ref p12, .ref p13, .ref p14])) := ⟨_, rfl⟩
  refine g_h (h' := h_53) eh_53.symm ?_
  have f_54 : h_53 a = some ((20, 0), .inr (4, [.int (iZ (0)), .int (iZ (0)), .int (iZ (0)), .ref p3, .ref p4, .int (iZ (0)), .ref p6, .ref p7, .int (iZ (0)), .ref p9, .ref p10, .ref p11, .ref p12, .ref p13, .ref p14])) := by rw [eh_53]; exact g_us
  have f_55 : h_53 p3 = some ((21, a), gI D 1024 (aP M)) := by rw [eh_53]; exact g_uk f_42 f_41 (show (21 : Nat) ≠ 20 by decide)
  have f_56 : h_53 p4 = some ((22, a), gI D 1024 (aB M)) := by rw [eh_53]; exact g_uk f_43 f_41 (show (22 : Nat) ≠ 20 by decide)
  have f_57 : h_53 p6 = some ((23, a), gI D 17408 (aY M)) := by rw [eh_53]; exact g_uk f_44 f_41 (show (23 : Nat) ≠ 20 by decide)
  have f_58 : h_53 p7 = some ((24, a), gL D 17408 (aG M)) := by rw [eh_53]; exact g_uk f_45 f_41 (show (24 : Nat) ≠ 20 by decide)
  have f_59 : h_53 p9 = some ((25, a), gI D 65536 (aC M)) := by rw [eh_53]; exact g_uk f_46 f_41 (show (25 : Nat) ≠ 20 by decide)
  have f_60 : h_53 p10 = some ((26, a), gI D 64 (aT M)) := by rw [eh_53]; exact g_uk f_47 f_41 (show (26 : Nat) ≠ 20 by decide)
  have f_61 : h_53 p11 = some ((27, a), gL D 64 (aL M)) := by rw [eh_53]; exact g_uk f_48 f_41 (show (27 : Nat) ≠ 20 by decide)
  have f_62 : h_53 p12 = some ((28, a), gI D 64 (aM M)) := by rw [eh_53]; exact g_uk f_49 f_41 (show (28 : Nat) ≠ 20 by decide)
  have f_63 : h_53 p13 = some ((29, a), gI D 1024 (aK M)) := by rw [eh_53]; exact g_uk f_50 f_41 (show (29 : Nat) ≠ 20 by decide)
  have f_64 : h_53 p14 = some ((30, a), gI D 1024 (aX M)) := by rw [eh_53]; exact g_uk f_51 f_41 (show (30 : Nat) ≠ 20 by decide)
  have hk_65 := kp_up (hk_52) eh_53 f_41 (⟨Nat.le_of_ble_eq_true rfl, Nat.le_of_ble_eq_true rfl⟩)
  exact g_vret X (⟨rfl, ⟨p3, p4, p6, p7, p9, p10, p11, p12, p13, p14, f_54, f_55, f_56, f_57, f_58, f_59, f_60, f_61, f_62, f_63, f_64⟩, hk_65⟩) (by decide) (by decide) d_MD_clear_25

set_option maxHeartbeats 4000000 in
set_option maxRecDepth 100000 in
theorem c_MD_layers {D : va_G} {s0 : State} {l : Launch} {h : gH} (B0 : gB D s0) {a : Nat} {M : Mdl} (hm : isMD D h a M) : gMet D s0 l y_MD_layers b_MD_layers 1 (some .int) ({ frames := 0, cells := 0, slots := 0, locals := 0 } : Room) [.ref a] h (fun v h' => some (.int (iZ (mY M))) = v ∧ isMD D h' a (0, M.2) ∧ kp P_MD h h') := by
  obtain ⟨p3, p4, p6, p7, p9, p10, p11, p12, p13, p14, f0, f3, f4, f6, f7, f9, f10, f11, f12, f13, f14⟩ := id hm
  refine g_enter B0 (plainFor_of_name (by decide)) (Nat.le_of_ble_eq_true rfl) (fun p e s m below meth c ls X hnm hl => ?_)
  have hl : lv_has ls 1 [(0, .ref a)] := hl
  refine g_1 (fun w => lv_aload_n X.1 X.2.1 d_MD_layers_0 rfl (lv_at hl 0 rfl) w) ?_
  refine g_1 (fun w => lv_iconst (v := iZ 0) X.1 X.2.1 d_MD_layers_1 rfl w) ?_
  refine g_put X (ci := 4) rfl f0 (Nat.succ_ne_zero _) 0 (by decide) ⟨rfl, rfl⟩ tw_502 (Or.inl rfl) rfl rfl rfl (Nat.le_of_ble_eq_true rfl) d_MD_layers_2 ?_
  obtain ⟨h_1, eh_1⟩ : ∃ z, z = g_up h a ((20, 0), .inr (4, [.int (iZ (0)), .int (iZ (mN M)), .int (iZ (mA M)), .ref p3, .ref p4, .int (iZ (mU M)), .ref p6, .ref p7, .int (iZ (mY M)), .ref p9, .ref p10, .ref p11, .ref p12, .ref p13, .ref p14])) := ⟨_, rfl⟩
  refine g_h (h' := h_1) eh_1.symm ?_
  have f_2 : h_1 a = some ((20, 0), .inr (4, [.int (iZ (0)), .int (iZ (mN M)), .int (iZ (mA M)), .ref p3, .ref p4, .int (iZ (mU M)), .ref p6, .ref p7, .int (iZ (mY M)), .ref p9, .ref p10, .ref p11, .ref p12, .ref p13, .ref p14])) := by rw [eh_1]; exact g_us
  have f_3 : h_1 p3 = some ((21, a), gI D 1024 (aP M)) := by rw [eh_1]; exact g_uk f3 f0 (show (21 : Nat) ≠ 20 by decide)
  have f_4 : h_1 p4 = some ((22, a), gI D 1024 (aB M)) := by rw [eh_1]; exact g_uk f4 f0 (show (22 : Nat) ≠ 20 by decide)
  have f_5 : h_1 p6 = some ((23, a), gI D 17408 (aY M)) := by rw [eh_1]; exact g_uk f6 f0 (show (23 : Nat) ≠ 20 by decide)
  have f_6 : h_1 p7 = some ((24, a), gL D 17408 (aG M)) := by rw [eh_1]; exact g_uk f7 f0 (show (24 : Nat) ≠ 20 by decide)
  have f_7 : h_1 p9 = some ((25, a), gI D 65536 (aC M)) := by rw [eh_1]; exact g_uk f9 f0 (show (25 : Nat) ≠ 20 by decide)
  have f_8 : h_1 p10 = some ((26, a), gI D 64 (aT M)) := by rw [eh_1]; exact g_uk f10 f0 (show (26 : Nat) ≠ 20 by decide)
  have f_9 : h_1 p11 = some ((27, a), gL D 64 (aL M)) := by rw [eh_1]; exact g_uk f11 f0 (show (27 : Nat) ≠ 20 by decide)
  have f_10 : h_1 p12 = some ((28, a), gI D 64 (aM M)) := by rw [eh_1]; exact g_uk f12 f0 (show (28 : Nat) ≠ 20 by decide)
  have f_11 : h_1 p13 = some ((29, a), gI D 1024 (aK M)) := by rw [eh_1]; exact g_uk f13 f0 (show (29 : Nat) ≠ 20 by decide)
  have f_12 : h_1 p14 = some ((30, a), gI D 1024 (aX M)) := by rw [eh_1]; exact g_uk f14 f0 (show (30 : Nat) ≠ 20 by decide)
  have hk_13 := kp_up (kp_rf (P := P_MD) (h := h)) eh_1 f0 (⟨Nat.le_of_ble_eq_true rfl, Nat.le_of_ble_eq_true rfl⟩)
  refine g_1 (fun w => lv_aload_n X.1 X.2.1 d_MD_layers_5 rfl (lv_at hl 0 rfl) w) ?_
  refine g_get X (ci := 4) rfl f_2 8 (by decide) ⟨rfl, rfl⟩ tw_510 (Or.inl rfl) rfl d_MD_layers_6 ?_
  exact g_iret X (⟨rfl, ⟨p3, p4, p6, p7, p9, p10, p11, p12, p13, p14, f_2, f_3, f_4, f_5, f_6, f_7, f_8, f_9, f_10, f_11, f_12⟩, hk_13⟩) (by decide) (by decide) d_MD_layers_9

set_option maxHeartbeats 4000000 in
set_option maxRecDepth 100000 in
theorem c_MD_throwing {D : va_G} {s0 : State} {l : Launch} {h : gH} (B0 : gB D s0) {a : Nat} {M : Mdl} (hm : isMD D h a M) {f g t : Int} (hf : i_ok f) (hg : i_ok g) (ht : t = thr f g) {r : Int} (hr : r = if 0 < t then 1 else 0) : gMet D s0 l y_MD_throwing b_MD_throwing 3 (some .boolean) ({ frames := 0, cells := 0, slots := 0, locals := 0 } : Room) [.ref a, .int (iZ (f)), .int (iZ (g))] h (fun v h' => some (.int (iZ r)) = v ∧ isMD D h' a (t, M.2) ∧ kp P_MD h h') := by
  obtain ⟨p3, p4, p6, p7, p9, p10, p11, p12, p13, p14, f0, f3, f4, f6, f7, f9, f10, f11, f12, f13, f14⟩ := id hm
  obtain ⟨hf1, hf2⟩ := id hf
  obtain ⟨hg1, hg2⟩ := id hg
  refine g_enter B0 (plainFor_of_name (by decide)) (Nat.le_of_ble_eq_true rfl) (fun p e s m below meth c ls X hnm hl => ?_)
  have hl : lv_has ls 3 [(0, .ref a), (1, .int (iZ (f))), (2, .int (iZ (g)))] := hl
  refine g_1 (fun w => lv_aload_n X.1 X.2.1 d_MD_throwing_0 rfl (lv_at hl 0 rfl) w) ?_
  refine g_1 (fun w => lv_iload_n X.1 X.2.1 d_MD_throwing_1 rfl (lv_at hl 1 rfl) w) ?_
  refine g_if_eq (tgt := 9) X (by first | exact ⟨by omega, by omega⟩ | (split <;> exact ⟨by omega, by omega⟩) | exact cmpZ_ok _ _ | exact mul_ok (by omega) (by omega) (by omega) (by omega)) d_MD_throwing_2 (by decide) (fun c2 => ?_) (fun c2 => ?_)
  · refine g_1 (fun w => lv_iload_n X.1 X.2.1 d_MD_throwing_9 rfl (lv_at hl 2 rfl) w) ?_
    refine g_if_eq (tgt := 17) X (by first | exact ⟨by omega, by omega⟩ | (split <;> exact ⟨by omega, by omega⟩) | exact cmpZ_ok _ _ | exact mul_ok (by omega) (by omega) (by omega) (by omega)) d_MD_throwing_10 (by decide) (fun c10 => ?_) (fun c10 => ?_)
    · refine g_1 (fun w => lv_iconst (v := iZ 0) X.1 X.2.1 d_MD_throwing_17 rfl w) ?_
      refine g_put X (ci := 4) rfl f0 (Nat.succ_ne_zero _) 0 (by decide) ⟨rfl, rfl⟩ tw_502 (Or.inl rfl) rfl rfl rfl (Nat.le_of_ble_eq_true rfl) d_MD_throwing_18 ?_
      obtain ⟨h_1, eh_1⟩ : ∃ z, z = g_up h a ((20, 0), .inr (4, [.int (iZ (0)), .int (iZ (mN M)), .int (iZ (mA M)), .ref p3, .ref p4, .int (iZ (mU M)), .ref p6, .ref p7, .int (iZ (mY M)), .ref p9, .ref p10, .ref p11, .ref p12, .ref p13, .ref p14])) := ⟨_, rfl⟩
      refine g_h (h' := h_1) eh_1.symm ?_
      have f_2 : h_1 a = some ((20, 0), .inr (4, [.int (iZ (0)), .int (iZ (mN M)), .int (iZ (mA M)), .ref p3, .ref p4, .int (iZ (mU M)), .ref p6, .ref p7, .int (iZ (mY M)), .ref p9, .ref p10, .ref p11, .ref p12, .ref p13, .ref p14])) := by rw [eh_1]; exact g_us
      have f_3 : h_1 p3 = some ((21, a), gI D 1024 (aP M)) := by rw [eh_1]; exact g_uk f3 f0 (show (21 : Nat) ≠ 20 by decide)
      have f_4 : h_1 p4 = some ((22, a), gI D 1024 (aB M)) := by rw [eh_1]; exact g_uk f4 f0 (show (22 : Nat) ≠ 20 by decide)
      have f_5 : h_1 p6 = some ((23, a), gI D 17408 (aY M)) := by rw [eh_1]; exact g_uk f6 f0 (show (23 : Nat) ≠ 20 by decide)
      have f_6 : h_1 p7 = some ((24, a), gL D 17408 (aG M)) := by rw [eh_1]; exact g_uk f7 f0 (show (24 : Nat) ≠ 20 by decide)
      have f_7 : h_1 p9 = some ((25, a), gI D 65536 (aC M)) := by rw [eh_1]; exact g_uk f9 f0 (show (25 : Nat) ≠ 20 by decide)
      have f_8 : h_1 p10 = some ((26, a), gI D 64 (aT M)) := by rw [eh_1]; exact g_uk f10 f0 (show (26 : Nat) ≠ 20 by decide)
      have f_9 : h_1 p11 = some ((27, a), gL D 64 (aL M)) := by rw [eh_1]; exact g_uk f11 f0 (show (27 : Nat) ≠ 20 by decide)
      have f_10 : h_1 p12 = some ((28, a), gI D 64 (aM M)) := by rw [eh_1]; exact g_uk f12 f0 (show (28 : Nat) ≠ 20 by decide)
      have f_11 : h_1 p13 = some ((29, a), gI D 1024 (aK M)) := by rw [eh_1]; exact g_uk f13 f0 (show (29 : Nat) ≠ 20 by decide)
      have f_12 : h_1 p14 = some ((30, a), gI D 1024 (aX M)) := by rw [eh_1]; exact g_uk f14 f0 (show (30 : Nat) ≠ 20 by decide)
      have hk_13 := kp_up (kp_rf (P := P_MD) (h := h)) eh_1 f0 (⟨Nat.le_of_ble_eq_true rfl, Nat.le_of_ble_eq_true rfl⟩)
      refine g_1 (fun w => lv_aload_n X.1 X.2.1 d_MD_throwing_21 rfl (lv_at hl 0 rfl) w) ?_
      refine g_get X (ci := 4) rfl f_2 0 (by decide) ⟨rfl, rfl⟩ tw_502 (Or.inl rfl) rfl d_MD_throwing_22 ?_
      refine g_if_le (tgt := 32) X (by first | exact ⟨by omega, by omega⟩ | (split <;> exact ⟨by omega, by omega⟩) | exact cmpZ_ok _ _ | exact mul_ok (by omega) (by omega) (by omega) (by omega)) d_MD_throwing_25 (by decide) (fun c25 => ?_) (fun c25 => ?_)
      · refine g_1 (fun w => lv_iconst (v := iZ 0) X.1 X.2.1 d_MD_throwing_32 rfl w) ?_
        exact g_zret X rfl (⟨g_ei (by rw [hr, ht, thr_0 c2 c10]; rfl), by rw [ht, thr_0 c2 c10]; exact ⟨p3, p4, p6, p7, p9, p10, p11, p12, p13, p14, f_2, f_3, f_4, f_5, f_6, f_7, f_8, f_9, f_10, f_11, f_12⟩, hk_13⟩) (by decide) (by decide) d_MD_throwing_33
      · exact absurd c25 (by decide)
    · refine g_1 (fun w => lv_iconst (v := iZ 2) X.1 X.2.1 d_MD_throwing_13 rfl w) ?_
      refine g_goto (tgt := 18) X d_MD_throwing_14 (by decide) ?_
      refine g_put X (ci := 4) rfl f0 (Nat.succ_ne_zero _) 0 (by decide) ⟨rfl, rfl⟩ tw_502 (Or.inl rfl) rfl rfl rfl (Nat.le_of_ble_eq_true rfl) d_MD_throwing_18 ?_
      obtain ⟨h_14, eh_14⟩ : ∃ z, z = g_up h a ((20, 0), .inr (4, [.int (iZ (2)), .int (iZ (mN M)), .int (iZ (mA M)), .ref p3, .ref p4, .int (iZ (mU M)), .ref p6, .ref p7, .int (iZ (mY M)), .ref p9, .ref p10, .ref p11, .ref p12, .ref p13, .ref p14])) := ⟨_, rfl⟩
      refine g_h (h' := h_14) eh_14.symm ?_
      have f_15 : h_14 a = some ((20, 0), .inr (4, [.int (iZ (2)), .int (iZ (mN M)), .int (iZ (mA M)), .ref p3, .ref p4, .int (iZ (mU M)), .ref p6, .ref p7, .int (iZ (mY M)), .ref p9, .ref p10, .ref p11, .ref p12, .ref p13, .ref p14])) := by rw [eh_14]; exact g_us
      have f_16 : h_14 p3 = some ((21, a), gI D 1024 (aP M)) := by rw [eh_14]; exact g_uk f3 f0 (show (21 : Nat) ≠ 20 by decide)
      have f_17 : h_14 p4 = some ((22, a), gI D 1024 (aB M)) := by rw [eh_14]; exact g_uk f4 f0 (show (22 : Nat) ≠ 20 by decide)
      have f_18 : h_14 p6 = some ((23, a), gI D 17408 (aY M)) := by rw [eh_14]; exact g_uk f6 f0 (show (23 : Nat) ≠ 20 by decide)
      have f_19 : h_14 p7 = some ((24, a), gL D 17408 (aG M)) := by rw [eh_14]; exact g_uk f7 f0 (show (24 : Nat) ≠ 20 by decide)
      have f_20 : h_14 p9 = some ((25, a), gI D 65536 (aC M)) := by rw [eh_14]; exact g_uk f9 f0 (show (25 : Nat) ≠ 20 by decide)
      have f_21 : h_14 p10 = some ((26, a), gI D 64 (aT M)) := by rw [eh_14]; exact g_uk f10 f0 (show (26 : Nat) ≠ 20 by decide)
      have f_22 : h_14 p11 = some ((27, a), gL D 64 (aL M)) := by rw [eh_14]; exact g_uk f11 f0 (show (27 : Nat) ≠ 20 by decide)
      have f_23 : h_14 p12 = some ((28, a), gI D 64 (aM M)) := by rw [eh_14]; exact g_uk f12 f0 (show (28 : Nat) ≠ 20 by decide)
      have f_24 : h_14 p13 = some ((29, a), gI D 1024 (aK M)) := by rw [eh_14]; exact g_uk f13 f0 (show (29 : Nat) ≠ 20 by decide)
      have f_25 : h_14 p14 = some ((30, a), gI D 1024 (aX M)) := by rw [eh_14]; exact g_uk f14 f0 (show (30 : Nat) ≠ 20 by decide)
      have hk_26 := kp_up (kp_rf (P := P_MD) (h := h)) eh_14 f0 (⟨Nat.le_of_ble_eq_true rfl, Nat.le_of_ble_eq_true rfl⟩)
      refine g_1 (fun w => lv_aload_n X.1 X.2.1 d_MD_throwing_21 rfl (lv_at hl 0 rfl) w) ?_
      refine g_get X (ci := 4) rfl f_15 0 (by decide) ⟨rfl, rfl⟩ tw_502 (Or.inl rfl) rfl d_MD_throwing_22 ?_
      refine g_if_le (tgt := 32) X (by first | exact ⟨by omega, by omega⟩ | (split <;> exact ⟨by omega, by omega⟩) | exact cmpZ_ok _ _ | exact mul_ok (by omega) (by omega) (by omega) (by omega)) d_MD_throwing_25 (by decide) (fun c25 => ?_) (fun c25 => ?_)
      · exact absurd c25 (by decide)
      · refine g_1 (fun w => lv_iconst (v := iZ 1) X.1 X.2.1 d_MD_throwing_28 rfl w) ?_
        refine g_goto (tgt := 33) X d_MD_throwing_29 (by decide) ?_
        exact g_zret X rfl (⟨g_ei (by rw [hr, ht, thr_2 c2 c10]; rfl), by rw [ht, thr_2 c2 c10]; exact ⟨p3, p4, p6, p7, p9, p10, p11, p12, p13, p14, f_15, f_16, f_17, f_18, f_19, f_20, f_21, f_22, f_23, f_24, f_25⟩, hk_26⟩) (by decide) (by decide) d_MD_throwing_33
  · refine g_1 (fun w => lv_iconst (v := iZ 1) X.1 X.2.1 d_MD_throwing_5 rfl w) ?_
    refine g_goto (tgt := 18) X d_MD_throwing_6 (by decide) ?_
    refine g_put X (ci := 4) rfl f0 (Nat.succ_ne_zero _) 0 (by decide) ⟨rfl, rfl⟩ tw_502 (Or.inl rfl) rfl rfl rfl (Nat.le_of_ble_eq_true rfl) d_MD_throwing_18 ?_
    obtain ⟨h_27, eh_27⟩ : ∃ z, z = g_up h a ((20, 0), .inr (4, [.int (iZ (1)), .int (iZ (mN M)), .int (iZ (mA M)), .ref p3, .ref p4, .int (iZ (mU M)), .ref p6, .ref p7, .int (iZ (mY M)), .ref p9, .ref p10, .ref p11, .ref p12, .ref p13, .ref p14])) := ⟨_, rfl⟩
    refine g_h (h' := h_27) eh_27.symm ?_
    have f_28 : h_27 a = some ((20, 0), .inr (4, [.int (iZ (1)), .int (iZ (mN M)), .int (iZ (mA M)), .ref p3, .ref p4, .int (iZ (mU M)), .ref p6, .ref p7, .int (iZ (mY M)), .ref p9, .ref p10, .ref p11, .ref p12, .ref p13, .ref p14])) := by rw [eh_27]; exact g_us
    have f_29 : h_27 p3 = some ((21, a), gI D 1024 (aP M)) := by rw [eh_27]; exact g_uk f3 f0 (show (21 : Nat) ≠ 20 by decide)
    have f_30 : h_27 p4 = some ((22, a), gI D 1024 (aB M)) := by rw [eh_27]; exact g_uk f4 f0 (show (22 : Nat) ≠ 20 by decide)
    have f_31 : h_27 p6 = some ((23, a), gI D 17408 (aY M)) := by rw [eh_27]; exact g_uk f6 f0 (show (23 : Nat) ≠ 20 by decide)
    have f_32 : h_27 p7 = some ((24, a), gL D 17408 (aG M)) := by rw [eh_27]; exact g_uk f7 f0 (show (24 : Nat) ≠ 20 by decide)
    have f_33 : h_27 p9 = some ((25, a), gI D 65536 (aC M)) := by rw [eh_27]; exact g_uk f9 f0 (show (25 : Nat) ≠ 20 by decide)
    have f_34 : h_27 p10 = some ((26, a), gI D 64 (aT M)) := by rw [eh_27]; exact g_uk f10 f0 (show (26 : Nat) ≠ 20 by decide)
    have f_35 : h_27 p11 = some ((27, a), gL D 64 (aL M)) := by rw [eh_27]; exact g_uk f11 f0 (show (27 : Nat) ≠ 20 by decide)
    have f_36 : h_27 p12 = some ((28, a), gI D 64 (aM M)) := by rw [eh_27]; exact g_uk f12 f0 (show (28 : Nat) ≠ 20 by decide)
    have f_37 : h_27 p13 = some ((29, a), gI D 1024 (aK M)) := by rw [eh_27]; exact g_uk f13 f0 (show (29 : Nat) ≠ 20 by decide)
    have f_38 : h_27 p14 = some ((30, a), gI D 1024 (aX M)) := by rw [eh_27]; exact g_uk f14 f0 (show (30 : Nat) ≠ 20 by decide)
    have hk_39 := kp_up (kp_rf (P := P_MD) (h := h)) eh_27 f0 (⟨Nat.le_of_ble_eq_true rfl, Nat.le_of_ble_eq_true rfl⟩)
    refine g_1 (fun w => lv_aload_n X.1 X.2.1 d_MD_throwing_21 rfl (lv_at hl 0 rfl) w) ?_
    refine g_get X (ci := 4) rfl f_28 0 (by decide) ⟨rfl, rfl⟩ tw_502 (Or.inl rfl) rfl d_MD_throwing_22 ?_
    refine g_if_le (tgt := 32) X (by first | exact ⟨by omega, by omega⟩ | (split <;> exact ⟨by omega, by omega⟩) | exact cmpZ_ok _ _ | exact mul_ok (by omega) (by omega) (by omega) (by omega)) d_MD_throwing_25 (by decide) (fun c25 => ?_) (fun c25 => ?_)
    · exact absurd c25 (by decide)
    · refine g_1 (fun w => lv_iconst (v := iZ 1) X.1 X.2.1 d_MD_throwing_28 rfl w) ?_
      refine g_goto (tgt := 33) X d_MD_throwing_29 (by decide) ?_
      exact g_zret X rfl (⟨g_ei (by rw [hr, ht, thr_1 c2]; rfl), by rw [ht, thr_1 c2]; exact ⟨p3, p4, p6, p7, p9, p10, p11, p12, p13, p14, f_28, f_29, f_30, f_31, f_32, f_33, f_34, f_35, f_36, f_37, f_38⟩, hk_39⟩) (by decide) (by decide) d_MD_throwing_33

set_option maxHeartbeats 4000000 in
set_option maxRecDepth 100000 in
theorem c_MD_gainOf {D : va_G} {s0 : State} {l : Launch} {h : gH} (B0 : gB D s0) {a n : Nat} {M : Mdl} {bs : Nat → Blk} (hm : isMD D h a M) (hv : mV M n bs) (hw : ∀ b, b < n → wfC (bs b)) (b f t : Nat) (hb : b < n) (hf : f ≤ bP (bs b)) (ht : t ≤ bP (bs b)) : gMet D s0 l y_MD_gainOf b_MD_gainOf 4 (some .long) ({ frames := 0, cells := 0, slots := 0, locals := 0 } : Room) [.ref a, .int (iZ (b)), .int (iZ (f)), .int (iZ (t))] h (fun v h' => some (.long (lZ (bG (bs b) t - bG (bs b) f))) = v ∧ h = h') := by
  obtain ⟨p3, p4, p6, p7, p9, p10, p11, p12, p13, p14, f0, f3, f4, f6, f7, f9, f10, f11, f12, f13, f14⟩ := id hm
  obtain ⟨v1, v2, v3, v4, v5⟩ := id hv
  obtain ⟨u1, u2, u3⟩ := v5 b hb
  have hbl := beg_lt bs hb
  have uf := u3 f hf
  have ut := u3 t ht
  refine g_enter B0 (plainFor_of_name (by decide)) (Nat.le_of_ble_eq_true rfl) (fun p e s m below meth c ls X hnm hl => ?_)
  have hl : lv_has ls 4 [(0, .ref a), (1, .int (iZ (b))), (2, .int (iZ (f))), (3, .int (iZ (t)))] := hl
  refine g_1 (fun w => lv_aload_n X.1 X.2.1 d_MD_gainOf_0 rfl (lv_at hl 0 rfl) w) ?_
  refine g_get X (ci := 4) rfl f0 7 (by decide) ⟨rfl, rfl⟩ tw_509 (Or.inl rfl) rfl d_MD_gainOf_1 ?_
  refine g_1 (fun w => lv_aload_n X.1 X.2.1 d_MD_gainOf_4 rfl (lv_at hl 0 rfl) w) ?_
  refine g_get X (ci := 4) rfl f0 4 (by decide) ⟨rfl, rfl⟩ tw_506 (Or.inl rfl) rfl d_MD_gainOf_5 ?_
  refine g_1 (fun w => lv_iload_n X.1 X.2.1 d_MD_gainOf_8 rfl (lv_at hl 1 rfl) w) ?_
  refine g_ild X f4 (b) (rfl) (by omega) (by omega) d_MD_gainOf_9 ?_
  refine g_1 (fun w => lv_iload_n X.1 X.2.1 d_MD_gainOf_10 rfl (lv_at hl 3 rfl) w) ?_
  refine g_iadd X d_MD_gainOf_11 ?_
  refine g_lld X f7 (beg bs b + t) (by omega) (by omega) (by omega) d_MD_gainOf_12 ?_
  refine g_1 (fun w => lv_aload_n X.1 X.2.1 d_MD_gainOf_13 rfl (lv_at hl 0 rfl) w) ?_
  refine g_get X (ci := 4) rfl f0 7 (by decide) ⟨rfl, rfl⟩ tw_509 (Or.inl rfl) rfl d_MD_gainOf_14 ?_
  refine g_1 (fun w => lv_aload_n X.1 X.2.1 d_MD_gainOf_17 rfl (lv_at hl 0 rfl) w) ?_
  refine g_get X (ci := 4) rfl f0 4 (by decide) ⟨rfl, rfl⟩ tw_506 (Or.inl rfl) rfl d_MD_gainOf_18 ?_
  refine g_1 (fun w => lv_iload_n X.1 X.2.1 d_MD_gainOf_21 rfl (lv_at hl 1 rfl) w) ?_
  refine g_ild X f4 (b) (rfl) (by omega) (by omega) d_MD_gainOf_22 ?_
  refine g_1 (fun w => lv_iload_n X.1 X.2.1 d_MD_gainOf_23 rfl (lv_at hl 2 rfl) w) ?_
  refine g_iadd X d_MD_gainOf_24 ?_
  refine g_lld X f7 (beg bs b + f) (by omega) (by omega) (by omega) d_MD_gainOf_25 ?_
  refine g_lsub X d_MD_gainOf_26 ?_
  exact g_lret X (⟨g_el (by rw [ut.2, uf.2]), rfl⟩) (by decide) (by decide) d_MD_gainOf_27

set_option maxHeartbeats 4000000 in
set_option maxRecDepth 100000 in
theorem c_MD_bytesOf {D : va_G} {s0 : State} {l : Launch} {h : gH} (B0 : gB D s0) {a n : Nat} {M : Mdl} {bs : Nat → Blk} (hm : isMD D h a M) (hv : mV M n bs) (hw : ∀ b, b < n → wfC (bs b)) (b f t : Nat) (hb : b < n) (hf : f ≤ bP (bs b)) (ht : t ≤ bP (bs b)) : gMet D s0 l y_MD_bytesOf b_MD_bytesOf 4 (some .int) ({ frames := 0, cells := 0, slots := 0, locals := 0 } : Room) [.ref a, .int (iZ (b)), .int (iZ (f)), .int (iZ (t))] h (fun v h' => some (.int (iZ (bB (bs b) t - bB (bs b) f))) = v ∧ h = h') := by
  obtain ⟨p3, p4, p6, p7, p9, p10, p11, p12, p13, p14, f0, f3, f4, f6, f7, f9, f10, f11, f12, f13, f14⟩ := id hm
  obtain ⟨v1, v2, v3, v4, v5⟩ := id hv
  obtain ⟨u1, u2, u3⟩ := v5 b hb
  have hbl := beg_lt bs hb
  have uf := u3 f hf
  have ut := u3 t ht
  refine g_enter B0 (plainFor_of_name (by decide)) (Nat.le_of_ble_eq_true rfl) (fun p e s m below meth c ls X hnm hl => ?_)
  have hl : lv_has ls 4 [(0, .ref a), (1, .int (iZ (b))), (2, .int (iZ (f))), (3, .int (iZ (t)))] := hl
  refine g_1 (fun w => lv_aload_n X.1 X.2.1 d_MD_bytesOf_0 rfl (lv_at hl 0 rfl) w) ?_
  refine g_get X (ci := 4) rfl f0 6 (by decide) ⟨rfl, rfl⟩ tw_508 (Or.inl rfl) rfl d_MD_bytesOf_1 ?_
  refine g_1 (fun w => lv_aload_n X.1 X.2.1 d_MD_bytesOf_4 rfl (lv_at hl 0 rfl) w) ?_
  refine g_get X (ci := 4) rfl f0 4 (by decide) ⟨rfl, rfl⟩ tw_506 (Or.inl rfl) rfl d_MD_bytesOf_5 ?_
  refine g_1 (fun w => lv_iload_n X.1 X.2.1 d_MD_bytesOf_8 rfl (lv_at hl 1 rfl) w) ?_
  refine g_ild X f4 (b) (rfl) (by omega) (by omega) d_MD_bytesOf_9 ?_
  refine g_1 (fun w => lv_iload_n X.1 X.2.1 d_MD_bytesOf_10 rfl (lv_at hl 3 rfl) w) ?_
  refine g_iadd X d_MD_bytesOf_11 ?_
  refine g_ild X f6 (beg bs b + t) (by omega) (by omega) (by omega) d_MD_bytesOf_12 ?_
  refine g_1 (fun w => lv_aload_n X.1 X.2.1 d_MD_bytesOf_13 rfl (lv_at hl 0 rfl) w) ?_
  refine g_get X (ci := 4) rfl f0 6 (by decide) ⟨rfl, rfl⟩ tw_508 (Or.inl rfl) rfl d_MD_bytesOf_14 ?_
  refine g_1 (fun w => lv_aload_n X.1 X.2.1 d_MD_bytesOf_17 rfl (lv_at hl 0 rfl) w) ?_
  refine g_get X (ci := 4) rfl f0 4 (by decide) ⟨rfl, rfl⟩ tw_506 (Or.inl rfl) rfl d_MD_bytesOf_18 ?_
  refine g_1 (fun w => lv_iload_n X.1 X.2.1 d_MD_bytesOf_21 rfl (lv_at hl 1 rfl) w) ?_
  refine g_ild X f4 (b) (rfl) (by omega) (by omega) d_MD_bytesOf_22 ?_
  refine g_1 (fun w => lv_iload_n X.1 X.2.1 d_MD_bytesOf_23 rfl (lv_at hl 2 rfl) w) ?_
  refine g_iadd X d_MD_bytesOf_24 ?_
  refine g_ild X f6 (beg bs b + f) (by omega) (by omega) (by omega) d_MD_bytesOf_25 ?_
  refine g_isub X d_MD_bytesOf_26 ?_
  exact g_iret X (⟨g_ei (by rw [ut.1, uf.1]), rfl⟩) (by decide) (by decide) d_MD_bytesOf_27
