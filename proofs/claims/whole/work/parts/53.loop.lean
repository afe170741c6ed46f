set_option maxHeartbeats 4000000 in
set_option maxRecDepth 100000 in
theorem law_loop {D : va_G} {s0 : State} {p : Program} {l : Launch} {e : Env} {m : MethodId} {below : List Frame} {meth : Method} {c : Code} {b L : Nat} {xs : Nat → Int} (B0 : gB D s0) (hfl : l.flags = flags0) (X : gX D s0 "LayerBudgetsLaw" code 8 ret p s0 m meth c) (hL : L ≤ 2560) (hxs : ∀ j, i_ok (xs j)) (hX : scrX s0 b L xs) {x a o : Nat} : ∀ (d t i : Nat) (h : gH) (ls : Array Slot), i = 5 * t → i ≤ L → L ≤ i + 5 * d + 4 → lawS D h x a o → lv_has ls 8 [(4, .int (iZ i)), (3, .ref o), (2, .ref a), (1, .ref x), (0, .ref b)] → GL D s0 p l e m below meth c b h (15 + 5 * t) (104666 + 2628 * t) (F0 m 23 ls []) := by
  intro d
  induction d with
  | zero =>
    intro t i h ls hit hiL hd hS hl
    refine g_1 (fun w => lv_iload X.1 X.2.1 d_LW_law_23 (lv_at hl 0 rfl) w) ?_
    refine g_1 (fun w => lv_aload_n X.1 X.2.1 d_LW_law_25 rfl (lv_at hl 4 rfl) w) ?_
    refine g_slen X hX d_LW_law_26 ?_
    refine g_1 (fun w => lv_iconst (v := iZ 5) X.1 X.2.1 d_LW_law_27 rfl w) ?_
    refine g_isub X d_LW_law_28 ?_
    refine g_icmp_gt (tgt := 672) X (by first | exact ⟨by omega, by omega⟩ | exact hxs _) (by first | exact ⟨by omega, by omega⟩ | exact hxs _) d_LW_law_29 (by decide) (fun c29 => ?_) (fun c29 => ?_)
    · refine g_1 (fun w => lv_iconst (v := iZ 1) X.1 X.2.1 d_LW_law_672 rfl w) ?_
      exact g_end X (by omega) (by omega) d_LW_law_673
    · exfalso
      omega
  | succ d ih =>
    intro t i h ls hit hiL hd hS hl
    have kont : i + 5 ≤ L → ∀ (h' : gH) (ls' : Array Slot), lawS D h' x a o → lv_has ls' 8 [(4, .int (iZ i)), (3, .ref o), (2, .ref a), (1, .ref x), (0, .ref b)] → GL D s0 p l e m below meth c b h' (15 + 5 * t + 5) (104666 + 2628 * t + 2628) (F0 m 666 ls' []) := by
      intro hi5 h' ls hS2 hl
      refine g_s (fun kk => lv_iinc (v := iZ (i + 5)) (lv' := [(4, .int (iZ (i + 5))), (3, .ref o), (2, .ref a), (1, .ref x), (0, .ref b)]) X.1 X.2.1 d_LW_law_666 hl (k := 0) rfl (iZ_add _ _) (by decide) rfl kk) (fun ls hl => ?_)
      refine g_goto (tgt := 23) X d_LW_law_669 (by decide) ?_
      refine g_widen (k' := 15 + 5 * (t + 1)) (n' := 104666 + 2628 * (t + 1)) (by omega) (by omega) ?_
      exact ih (t + 1) (i + 5) h' ls (by omega) (by omega) (by omega) hS2 (lv_sub hl [0, 1, 2, 3, 4] rfl)
    refine g_1 (fun w => lv_iload X.1 X.2.1 d_LW_law_23 (lv_at hl 0 rfl) w) ?_
    refine g_1 (fun w => lv_aload_n X.1 X.2.1 d_LW_law_25 rfl (lv_at hl 4 rfl) w) ?_
    refine g_slen X hX d_LW_law_26 ?_
    refine g_1 (fun w => lv_iconst (v := iZ 5) X.1 X.2.1 d_LW_law_27 rfl w) ?_
    refine g_isub X d_LW_law_28 ?_
    refine g_icmp_gt (tgt := 672) X (by first | exact ⟨by omega, by omega⟩ | exact hxs _) (by first | exact ⟨by omega, by omega⟩ | exact hxs _) d_LW_law_29 (by decide) (fun c29 => ?_) (fun c29 => ?_)
    · refine g_1 (fun w => lv_iconst (v := iZ 1) X.1 X.2.1 d_LW_law_672 rfl w) ?_
      exact g_end X (by omega) (by omega) d_LW_law_673
    · refine g_1 (fun w => lv_aload_n X.1 X.2.1 d_LW_law_32 rfl (lv_at hl 4 rfl) w) ?_
      refine g_1 (fun w => lv_iload X.1 X.2.1 d_LW_law_33 (lv_at hl 0 rfl) w) ?_
      refine g_sld X hX (i) (rfl) (by omega) (by omega) d_LW_law_35 ?_
      refine g_1 (fun w => lv_bipush (v := iZ 15) X.1 X.2.1 d_LW_law_36 (by decide) w) ?_
      obtain ⟨kk, hkk, ek⟩ := and15 (xs i)
      refine g_1 (fun w => lv_iand X.1 X.2.1 d_LW_law_38 w) ?_
      refine g_ti ek ?_
      have hl := lv_sub hl [0, 1, 2, 3, 4] rfl
      rcases (show kk = 0 ∨ kk = 1 ∨ kk = 2 ∨ kk = 3 ∨ kk = 4 ∨ kk = 5 ∨ kk = 6 ∨ kk = 7 ∨ kk = 8 ∨ kk = 9 ∨ 10 ≤ kk by omega) with rfl | rfl | rfl | rfl | rfl | rfl | rfl | rfl | rfl | rfl | hge
      · refine g_1 (fun w => lv_tableIn (off := 53) (tgt := 92) X.1 X.2.1 d_LW_law_39 (by decide) (by decide) (by decide) (by decide) w) ?_
        exact law_0 B0 hfl X ⟨by omega, by omega⟩ (by omega) hL hxs hX hS (kont (by omega)) hl
      · refine g_1 (fun w => lv_tableIn (off := 64) (tgt := 103) X.1 X.2.1 d_LW_law_39 (by decide) (by decide) (by decide) (by decide) w) ?_
        exact law_1 B0 hfl X ⟨by omega, by omega⟩ (by omega) hL hxs hX hS (kont (by omega)) hl
      · refine g_1 (fun w => lv_tableIn (off := 108) (tgt := 147) X.1 X.2.1 d_LW_law_39 (by decide) (by decide) (by decide) (by decide) w) ?_
        exact law_2 B0 hfl X ⟨by omega, by omega⟩ (by omega) hL hxs hX hS (kont (by omega)) hl
      · refine g_1 (fun w => lv_tableIn (off := 220) (tgt := 259) X.1 X.2.1 d_LW_law_39 (by decide) (by decide) (by decide) (by decide) w) ?_
        exact law_3 B0 hfl X ⟨by omega, by omega⟩ (by omega) hL hxs hX hS (kont (by omega)) hl
      · refine g_1 (fun w => lv_tableIn (off := 300) (tgt := 339) X.1 X.2.1 d_LW_law_39 (by decide) (by decide) (by decide) (by decide) w) ?_
        exact law_4 B0 hfl X ⟨by omega, by omega⟩ (by omega) hL hxs hX hS (kont (by omega)) hl
      · refine g_1 (fun w => lv_tableIn (off := 367) (tgt := 406) X.1 X.2.1 d_LW_law_39 (by decide) (by decide) (by decide) (by decide) w) ?_
        exact law_5 B0 hfl X ⟨by omega, by omega⟩ (by omega) hL hxs hX hS (kont (by omega)) hl
      · refine g_1 (fun w => lv_tableIn (off := 423) (tgt := 462) X.1 X.2.1 d_LW_law_39 (by decide) (by decide) (by decide) (by decide) w) ?_
        exact law_6 B0 hfl X ⟨by omega, by omega⟩ (by omega) hL hxs hX hS (kont (by omega)) hl
      · refine g_1 (fun w => lv_tableIn (off := 436) (tgt := 475) X.1 X.2.1 d_LW_law_39 (by decide) (by decide) (by decide) (by decide) w) ?_
        exact law_7 B0 hfl X ⟨by omega, by omega⟩ (by omega) hL hxs hX hS (kont (by omega)) hl
      · refine g_1 (fun w => lv_tableIn (off := 504) (tgt := 543) X.1 X.2.1 d_LW_law_39 (by decide) (by decide) (by decide) (by decide) w) ?_
        exact law_8 B0 hfl X ⟨by omega, by omega⟩ (by omega) hL hxs hX hS (kont (by omega)) hl
      · refine g_1 (fun w => lv_tableIn (off := 560) (tgt := 599) X.1 X.2.1 d_LW_law_39 (by decide) (by decide) (by decide) (by decide) w) ?_
        exact law_9 B0 hfl X ⟨by omega, by omega⟩ (by omega) hL hxs hX hS (kont (by omega)) hl
      · refine g_1 (fun w => lv_tableOut (tgt := 666) X.1 X.2.1 d_LW_law_39 (Or.inr (by rw [iZ_I ⟨by omega, by omega⟩]; omega)) (by decide) w) ?_
        exact g_widen (by omega) (by omega) (kont (by omega) h ls hS hl)

theorem LB_ini {D : va_G} {h h' : gH} {x a : Nat} {A Y : List Nat} {bs : Nat → Blk} {ys : Nat → Lay} {pn tb : Int} {e : va_E} (hx : isLB D h x A bs Y ys pn tb) (ha : h a = some ((20, 0), e)) (hk : kp (fun q _ => q = a) h h') : isLB D h' x A bs Y ys pn tb := by
  obtain ⟨bl, yl, hx⟩ := hx
  refine ⟨bl, yl, LBb_kp hx hk (fun q t hq hc z => ?_)⟩
  obtain ⟨e2, hq⟩ := hq
  subst z
  cases ha.symm.trans hq
  rcases hc with w | w | w | w | w | w | w
  · exact absurd w (by decide)
  · exact absurd w (by decide)
  · exact absurd w (by decide)
  · exact absurd w.1 (by decide)
  · exact absurd w.2.1 (by decide)
  · exact absurd w.1 (by decide)
  · exact absurd w.1 (by decide)
theorem LB_nw {D : va_G} {h h1 : gH} {x z : Nat} {A Y : List Nat} {bs : Nat → Blk} {ys : Nat → Lay} {pn tb : Int} {y : gE} (hx : isLB D h x A bs Y ys pn tb) (hz : h z = none) (e1 : h1 = g_up h z y) : isLB D h1 x A bs Y ys pn tb := by
  obtain ⟨bl, yl, hx⟩ := hx
  exact ⟨bl, yl, LBb_kp (P := fun _ _ => False) hx (kp_new kp_rf e1 hz) (fun _ _ _ _ w => w)⟩
theorem MD_nw {D : va_G} {h h1 : gH} {a z : Nat} {M : Mdl} {y : gE} (hm : isMD D h a M) (hz : h z = none) (e1 : h1 = g_up h z y) : isMD D h1 a M := hm.kp (P := fun _ _ => False) (kp_new kp_rf e1 hz) (fun _ _ _ _ w => w)

set_option maxHeartbeats 4000000 in
set_option maxRecDepth 100000 in
theorem law_begin {D : va_G} {s0 : State} {p : Program} {l : Launch} {e : Env} {m : MethodId} {below : List Frame} {meth : Method} {c : Code} {b L : Nat} {xs : Nat → Int} (B0 : gB D s0) (hfl : l.flags = flags0) (X : gX D s0 "LayerBudgetsLaw" code 8 ret p s0 m meth c) (hL : L ≤ 2560) (hxs : ∀ j, i_ok (xs j)) (hX : scrX s0 b L xs) {h : gH} {ls : Array Slot} (hl : lv_has ls 8 [(0, .ref b)]) : GL D s0 p l e m below meth c b h 0 0 (F0 m 0 ls []) := by
  refine g_new X (ci := 0) rfl tw_21 tw_22 tw_1 (fs := [.null, .null, .int (iZ (0)), .int (iZ (0))]) (fun j hj => by rcases (show j = 0 ∨ j = 1 ∨ j = 2 ∨ j = 3 by omega) with rfl | rfl | rfl | rfl <;> rfl) (fun z => (3, 0)) (by decide) (by decide) d_LW_law_0 (fun na_1 hfna_1 => ?_)
  obtain ⟨h_2, eh_2⟩ : ∃ z_, z_ = g_up h na_1 ((3, 0), .inr (0, [.null, .null, .int (iZ (0)), .int (iZ (0))])) := ⟨_, rfl⟩
  refine g_h (h' := h_2) eh_2.symm ?_
  have f_3 : h_2 na_1 = some ((3, 0), .inr (0, [.null, .null, .int (iZ (0)), .int (iZ (0))])) := by rw [eh_2]; exact g_us
  refine g_1 (fun w => lv_dup X.1 X.2.1 d_LW_law_3 rfl w) ?_
  refine g_callI (na := 0) X (c_LB_init B0 (fun _ => newB) (fun _ => (0, fun _ => 0, 0, 0, 0)) f_3) rfl rfl ⟨⟨tw_25, tw_1⟩, ⟨by decide, by decide, by decide +kernel⟩, by decide, by decide⟩ tw_23 tw_24 rfl hl.1 (Nat.le_of_ble_eq_true rfl) ⟨by decide, by decide⟩ d_LW_law_4 (fun v h2 hp => ?_)
  obtain ⟨rfl, hx, hkx⟩ := hp
  refine g_widen (k' := 0 + 1 + 2) (n' := 0 + 4 + 6) (by decide) (by decide) ?_
  show G D s0 p l e _ s0 m _ below meth c h2 _ _ _ (F0 m 7 ls [.ref na_1])
  refine g_s (fun kk => lv_astore_n (lv' := [(1, .ref na_1), (0, .ref b)]) X.1 X.2.1 d_LW_law_7 rfl hl (by decide) rfl kk) (fun ls hl => ?_)
  refine g_new X (ci := 4) rfl tw_495 tw_496 tw_5 (fs := [.int (iZ (0)), .int (iZ (0)), .int (iZ (0)), .null, .null, .int (iZ (0)), .null, .null, .int (iZ (0)), .null, .null, .null, .null, .null, .null]) (fun j hj => by rcases (show j = 0 ∨ j = 1 ∨ j = 2 ∨ j = 3 ∨ j = 4 ∨ j = 5 ∨ j = 6 ∨ j = 7 ∨ j = 8 ∨ j = 9 ∨ j = 10 ∨ j = 11 ∨ j = 12 ∨ j = 13 ∨ j = 14 by omega) with rfl | rfl | rfl | rfl | rfl | rfl | rfl | rfl | rfl | rfl | rfl | rfl | rfl | rfl | rfl <;> rfl) (fun z => (20, 0)) (by decide) (by decide) d_LW_law_8 (fun na_4 hfna_4 => ?_)
  obtain ⟨h_5, eh_5⟩ : ∃ z_, z_ = g_up h2 na_4 ((20, 0), .inr (4, [.int (iZ (0)), .int (iZ (0)), .int (iZ (0)), .null, .null, .int (iZ (0)), .null, .null, .int (iZ (0)), .null, .null, .null, .null, .null, .null])) := ⟨_, rfl⟩
  refine g_h (h' := h_5) eh_5.symm ?_
  have f_6 : h_5 na_4 = some ((20, 0), .inr (4, [.int (iZ (0)), .int (iZ (0)), .int (iZ (0)), .null, .null, .int (iZ (0)), .null, .null, .int (iZ (0)), .null, .null, .null, .null, .null, .null])) := by rw [eh_5]; exact g_us
  refine g_1 (fun w => lv_dup X.1 X.2.1 d_LW_law_11 rfl w) ?_
  refine g_callI (na := 0) X (c_MD_init B0 f_6) rfl rfl ⟨⟨tw_499, tw_5⟩, ⟨by decide, by decide, by decide +kernel⟩, by decide, by decide⟩ tw_497 tw_498 rfl hl.1 (Nat.le_of_ble_eq_true rfl) ⟨by decide, by decide⟩ d_LW_law_12 (fun v h3 hp => ?_)
  obtain ⟨rfl, hm, hkm⟩ := hp
  have hx := LB_nw hx hfna_4 eh_5
  have hx := LB_ini hx f_6 hkm
  refine g_widen (k' := 0 + 1 + 2 + 1 + 10) (n' := 0 + 4 + 6 + 15 + 104640) (by decide) (by decide) ?_
  show G D s0 p l e _ s0 m _ below meth c h3 _ _ _ (F0 m 15 ls [.ref na_4])
  refine g_s (fun kk => lv_astore_n (lv' := [(2, .ref na_4), (1, .ref na_1), (0, .ref b)]) X.1 X.2.1 d_LW_law_15 rfl hl (by decide) rfl kk) (fun ls hl => ?_)
  refine g_1 (fun w => lv_iconst (v := iZ 1) X.1 X.2.1 d_LW_law_16 rfl w) ?_
  refine g_newl X (1) (rfl) (by omega) (fun z => (40, 0)) (by decide) (by decide) d_LW_law_17 (fun na_7 hfna_7 => ?_)
  obtain ⟨h_8, eh_8⟩ : ∃ z_, z_ = g_up h3 na_7 ((40, 0), gL D 1 (fun _ => 0)) := ⟨_, rfl⟩
  refine g_h (h' := h_8) eh_8.symm ?_
  have f_9 : h_8 na_7 = some ((40, 0), gL D 1 (fun _ => 0)) := by rw [eh_8]; exact g_us
  have hx := LB_nw hx hfna_7 eh_8
  have hm := MD_nw hm hfna_7 eh_8
  refine g_s (fun kk => lv_astore_n (lv' := [(3, .ref na_7), (2, .ref na_4), (1, .ref na_1), (0, .ref b)]) X.1 X.2.1 d_LW_law_19 rfl hl (by decide) rfl kk) (fun ls hl => ?_)
  refine g_1 (fun w => lv_iconst (v := iZ 0) X.1 X.2.1 d_LW_law_20 rfl w) ?_
  refine g_s (fun kk => lv_istore (lv' := [(4, .int (iZ (0))), (3, .ref na_7), (2, .ref na_4), (1, .ref na_1), (0, .ref b)]) X.1 X.2.1 d_LW_law_21 hl (by decide) rfl kk) (fun ls hl => ?_)
  refine g_widen (k' := 15 + 5 * 0) (n' := 104666 + 2628 * 0) (by decide) (by decide) ?_
  exact law_loop B0 hfl X hL hxs hX (L / 5 + 1) 0 0 h_8 ls rfl (Nat.zero_le _) (by omega) ⟨[], fun _ => newB, [], fun _ => (0, fun _ => 0, 0, 0, 0), 0, 0, _, _, hx, hm, f_9, INV_clear _ _ (0, 0, 0, 0, 0, fun _ => 0, fun _ => 0, fun _ => 0, fun _ => 0, fun _ => 0, fun _ => 0, fun _ => 0, fun _ => 0, fun _ => 0, fun _ => 0)⟩ (lv_sub hl [0, 1, 2, 3, 4] rfl)
