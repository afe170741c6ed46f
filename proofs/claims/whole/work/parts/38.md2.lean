theorem eN_0 {k : Nat} (h : k = 0) : eN k = -1 := if_pos h
theorem eN_s {k : Nat} (h : k ≠ 0) : eN k = k := if_neg h
theorem eN_bd (k : Nat) : -1 ≤ eN k ∧ eN k ≤ k := by
  unfold eN
  split <;> omega

set_option maxHeartbeats 4000000 in
set_option maxRecDepth 100000 in
theorem c_MD_stepFrom {D : va_G} {s0 : State} {l : Launch} {h : gH} (B0 : gB D s0) {a n : Nat} {M : Mdl} {bs : Nat → Blk} (hm : isMD D h a M) (hv : mV M n bs) (hw : ∀ b, b < n → wfC (bs b)) (b j : Nat) (hb : b < n) (hj : j ≤ bP (bs b)) : gMet D s0 l y_MD_stepFrom b_MD_stepFrom 5 (some .int) ({ frames := 1, cells := 0, slots := 0, locals := 29 } : Room) [.ref a, .int (iZ (b)), .int (iZ (j))] h (fun v h' => some (.int (iZ (eN (sfr (bs b) j (bP (bs b)))))) = v ∧ h = h') := by
  obtain ⟨p3, p4, p6, p7, p9, p10, p11, p12, p13, p14, f0, f3, f4, f6, f7, f9, f10, f11, f12, f13, f14⟩ := id hm
  obtain ⟨v1, v2, v3, v4, v5⟩ := id hv
  obtain ⟨u1, u2, u3⟩ := v5 b hb
  obtain ⟨⟨⟨k1, k2, k3, k4, k5, k6, k7, k8⟩, w2, w3, w4⟩, w5, w6⟩ := id (hw b hb)
  refine g_enter B0 (plainFor_of_name (by decide)) (Nat.le_of_ble_eq_true rfl) (fun p e s m below meth c ls X hnm hl => ?_)
  have hl : lv_has ls 5 [(0, .ref a), (1, .int (iZ (b))), (2, .int (iZ (j)))] := hl
  have loop : ∀ (d i r : Nat) (v : Int) (ls : Array Slot), i + d = bP (bs b) → j ≤ i → sfr (bs b) j i = r → ((r = 0 ∧ v = -1) ∨ (1 ≤ r ∧ v = r)) → lv_has ls 5 [(4, .int (iZ (i + 1))), (3, .int (iZ (v))), (2, .int (iZ (j))), (1, .int (iZ (b))), (0, .ref a)] → G D s0 p l e ({ frames := 1, cells := 0, slots := 0, locals := 29 } : Room) s m ([.ref a, .int (iZ (b)), .int (iZ (j))] : List Value).toArray below meth c h 0 0 (MQ below (gQ D s0 (fun v h' => some (.int (iZ (eN (sfr (bs b) j (bP (bs b)))))) = v ∧ h = h')) ([.ref a, .int (iZ (b)), .int (iZ (j))] : List Value).toArray s 0 0 (fun q => s0.heap.size ≤ q)) (F0 m 7 ls []) := by
    intro d
    induction d with
    | zero =>
      intro i r v ls hi hji er ev hl
      have hrl := sfr_le (b := bs b) (j := j) (k := i)
      refine g_1 (fun w => lv_iload X.1 X.2.1 d_MD_stepFrom_7 (lv_at hl 0 rfl) w) ?_
      refine g_1 (fun w => lv_aload_n X.1 X.2.1 d_MD_stepFrom_9 rfl (lv_at hl 4 rfl) w) ?_
      refine g_get X (ci := 4) rfl f0 3 (by decide) ⟨rfl, rfl⟩ tw_505 (Or.inl rfl) rfl d_MD_stepFrom_10 ?_
      refine g_1 (fun w => lv_iload_n X.1 X.2.1 d_MD_stepFrom_13 rfl (lv_at hl 3 rfl) w) ?_
      refine g_ild X f3 (b) (rfl) (by omega) (by omega) d_MD_stepFrom_14 ?_
      refine g_icmp_gt (tgt := 83) X (by first | exact ⟨by omega, by omega⟩ | (split <;> exact ⟨by omega, by omega⟩) | exact cmpZ_ok _ _ | exact mul_ok (by omega) (by omega) (by omega) (by omega)) (by first | exact ⟨by omega, by omega⟩ | (split <;> exact ⟨by omega, by omega⟩) | exact cmpZ_ok _ _ | exact mul_ok (by omega) (by omega) (by omega) (by omega)) d_MD_stepFrom_15 (by decide) (fun c15 => ?_) (fun c15 => ?_)
      · refine g_1 (fun w => lv_iload_n X.1 X.2.1 d_MD_stepFrom_83 rfl (lv_at hl 1 rfl) w) ?_
        exact g_iret X (⟨g_ei (by rw [show bP (bs b) = i by omega, er]; unfold eN; split <;> omega), rfl⟩) (by decide) (by decide) d_MD_stepFrom_84
      · exfalso
        omega
    | succ d ih =>
      intro i r v ls hi hji er ev hl
      have hrl := sfr_le (b := bs b) (j := j) (k := i)
      have q1 := k7 (i + 1)
      have q2 := k7 j
      refine g_1 (fun w => lv_iload X.1 X.2.1 d_MD_stepFrom_7 (lv_at hl 0 rfl) w) ?_
      refine g_1 (fun w => lv_aload_n X.1 X.2.1 d_MD_stepFrom_9 rfl (lv_at hl 4 rfl) w) ?_
      refine g_get X (ci := 4) rfl f0 3 (by decide) ⟨rfl, rfl⟩ tw_505 (Or.inl rfl) rfl d_MD_stepFrom_10 ?_
      refine g_1 (fun w => lv_iload_n X.1 X.2.1 d_MD_stepFrom_13 rfl (lv_at hl 3 rfl) w) ?_
      refine g_ild X f3 (b) (rfl) (by omega) (by omega) d_MD_stepFrom_14 ?_
      refine g_icmp_gt (tgt := 83) X (by first | exact ⟨by omega, by omega⟩ | (split <;> exact ⟨by omega, by omega⟩) | exact cmpZ_ok _ _ | exact mul_ok (by omega) (by omega) (by omega) (by omega)) (by first | exact ⟨by omega, by omega⟩ | (split <;> exact ⟨by omega, by omega⟩) | exact cmpZ_ok _ _ | exact mul_ok (by omega) (by omega) (by omega) (by omega)) d_MD_stepFrom_15 (by decide) (fun c15 => ?_) (fun c15 => ?_)
      · exfalso
        omega
      · refine g_1 (fun w => lv_aload_n X.1 X.2.1 d_MD_stepFrom_18 rfl (lv_at hl 4 rfl) w) ?_
        refine g_1 (fun w => lv_iload_n X.1 X.2.1 d_MD_stepFrom_19 rfl (lv_at hl 3 rfl) w) ?_
        refine g_1 (fun w => lv_iload_n X.1 X.2.1 d_MD_stepFrom_20 rfl (lv_at hl 2 rfl) w) ?_
        refine g_1 (fun w => lv_iload X.1 X.2.1 d_MD_stepFrom_21 (lv_at hl 0 rfl) w) ?_
        refine g_callV (na := 3) X (c_MD_gainOf B0 hm hv hw b j (i + 1) (by omega) (by omega) (by omega)) rfl f0 rfl ⟨⟨tw_589, tw_5⟩, ⟨by decide, by decide, by decide +kernel⟩, by decide, by decide⟩ tw_586 tw_588 ts_MD_gainOf rfl hl.1 (Nat.le_of_ble_eq_true rfl) ⟨by decide, by decide⟩ d_MD_stepFrom_23 (fun v h' hp => ?_)
        obtain ⟨rfl, rfl⟩ := hp
        refine g_widen (k' := 0) (n' := 0) (by decide) (by decide) ?_
        show G D s0 p l e _ s m _ below meth c h _ _ _ (F0 m 26 ls [.long (lZ (bG (bs b) (i + 1) - bG (bs b) j))])
        refine g_1 (fun w => lv_lconst (v := lZ 0) X.1 X.2.1 d_MD_stepFrom_26 (by decide) w) ?_
        refine g_lcmp X (by first | exact ⟨by omega, by omega⟩ | (split <;> exact ⟨by omega, by omega⟩) | exact cmpZ_ok _ _ | exact mul_ok (by omega) (by omega) (by omega) (by omega)) (by first | exact ⟨by omega, by omega⟩ | (split <;> exact ⟨by omega, by omega⟩) | exact cmpZ_ok _ _ | exact mul_ok (by omega) (by omega) (by omega) (by omega)) d_MD_stepFrom_27 ?_
        refine g_if_gt (tgt := 34) X (cmpZ_ok _ _) d_MD_stepFrom_28 (by decide) (fun c28 => ?_) (fun c28 => ?_)
        · have c28g := cmpZ_gt.mp c28
          refine g_1 (fun w => lv_iload_n X.1 X.2.1 d_MD_stepFrom_34 rfl (lv_at hl 1 rfl) w) ?_
          refine g_if_lt (tgt := 74) X (by first | exact ⟨by omega, by omega⟩ | (split <;> exact ⟨by omega, by omega⟩) | exact cmpZ_ok _ _ | exact mul_ok (by omega) (by omega) (by omega) (by omega)) d_MD_stepFrom_35 (by decide) (fun c35 => ?_) (fun c35 => ?_)
          · refine g_1 (fun w => lv_iload X.1 X.2.1 d_MD_stepFrom_74 (lv_at hl 0 rfl) w) ?_
            refine g_s (fun kk => lv_istore_n (lv' := [(3, .int (iZ (i + 1))), (4, .int (iZ (i + 1))), (2, .int (iZ (j))), (1, .int (iZ (b))), (0, .ref a)]) X.1 X.2.1 d_MD_stepFrom_76 rfl hl (by decide) rfl kk) (fun ls hl => ?_)
            refine g_s (fun kk => lv_iinc (v := iZ (i + 1 + 1)) (lv' := [(4, .int (iZ (i + 1 + 1))), (3, .int (iZ (i + 1))), (2, .int (iZ (j))), (1, .int (iZ (b))), (0, .ref a)]) X.1 X.2.1 d_MD_stepFrom_77 hl (k := 1) rfl (iZ_add _ _) (by decide) rfl kk) (fun ls hl => ?_)
            refine g_goto (tgt := 7) X d_MD_stepFrom_80 (by decide) ?_
            have e9 : sfr (bs b) j (i + 1) = i + 1 := sfr_t (by omega) c28g (by first | exact Or.inl (by omega) | exact Or.inr (by rw [er]; exact cmpZ_ge.mp c71))
            exact ih (i + 1) (i + 1) ((i + 1 : Nat) : Int) ls (by omega) (by omega) e9 (Or.inr ⟨by omega, rfl⟩) (lv_sub hl [0, 1, 2, 3, 4] rfl)
          · obtain rfl : v = (r : Int) := by omega
            have hr := sfr_le (b := bs b) (j := j) (k := i)
            have hr2 := sfr_gt (b := bs b) (j := j) (k := i) (by rw [er]; omega)
            rw [er] at hr hr2
            have m1 := k8 j (i + 1) (by omega) (by omega)
            have m2 := k8 j r (by omega) (by omega)
            have x1 := k7 r
            have x2 := k6 r
            have x3 := k6 (i + 1)
            have x4 := k6 j
            have x5 := hr2.2
            refine g_1 (fun w => lv_aload_n X.1 X.2.1 d_MD_stepFrom_38 rfl (lv_at hl 4 rfl) w) ?_
            refine g_1 (fun w => lv_iload_n X.1 X.2.1 d_MD_stepFrom_39 rfl (lv_at hl 3 rfl) w) ?_
            refine g_1 (fun w => lv_iload_n X.1 X.2.1 d_MD_stepFrom_40 rfl (lv_at hl 2 rfl) w) ?_
            refine g_1 (fun w => lv_iload X.1 X.2.1 d_MD_stepFrom_41 (lv_at hl 0 rfl) w) ?_
            refine g_callV (na := 3) X (c_MD_gainOf B0 hm hv hw b j (i + 1) (by omega) (by omega) (by omega)) rfl f0 rfl ⟨⟨tw_589, tw_5⟩, ⟨by decide, by decide, by decide +kernel⟩, by decide, by decide⟩ tw_586 tw_588 ts_MD_gainOf rfl hl.1 (Nat.le_of_ble_eq_true rfl) ⟨by decide, by decide⟩ d_MD_stepFrom_43 (fun v h' hp => ?_)
            obtain ⟨rfl, rfl⟩ := hp
            refine g_widen (k' := 0) (n' := 0) (by decide) (by decide) ?_
            show G D s0 p l e _ s m _ below meth c h _ _ _ (F0 m 46 ls [.long (lZ (bG (bs b) (i + 1) - bG (bs b) j))])
            refine g_1 (fun w => lv_aload_n X.1 X.2.1 d_MD_stepFrom_46 rfl (lv_at hl 4 rfl) w) ?_
            refine g_1 (fun w => lv_iload_n X.1 X.2.1 d_MD_stepFrom_47 rfl (lv_at hl 3 rfl) w) ?_
            refine g_1 (fun w => lv_iload_n X.1 X.2.1 d_MD_stepFrom_48 rfl (lv_at hl 2 rfl) w) ?_
            refine g_1 (fun w => lv_iload X.1 X.2.1 d_MD_stepFrom_49 (lv_at hl 0 rfl) w) ?_
            refine g_callV (na := 3) X (c_MD_bytesOf B0 hm hv hw b j (i + 1) (by omega) (by omega) (by omega)) rfl f0 rfl ⟨⟨tw_593, tw_5⟩, ⟨by decide, by decide, by decide +kernel⟩, by decide, by decide⟩ tw_590 tw_592 ts_MD_bytesOf rfl hl.1 (Nat.le_of_ble_eq_true rfl) ⟨by decide, by decide⟩ d_MD_stepFrom_51 (fun v h' hp => ?_)
            obtain ⟨rfl, rfl⟩ := hp
            refine g_widen (k' := 0) (n' := 0) (by decide) (by decide) ?_
            show G D s0 p l e _ s m _ below meth c h _ _ _ (F0 m 54 ls [.int (iZ (bB (bs b) (i + 1) - bB (bs b) j)), .long (lZ (bG (bs b) (i + 1) - bG (bs b) j))])
            refine g_1 (fun w => lv_aload_n X.1 X.2.1 d_MD_stepFrom_54 rfl (lv_at hl 4 rfl) w) ?_
            refine g_1 (fun w => lv_iload_n X.1 X.2.1 d_MD_stepFrom_55 rfl (lv_at hl 3 rfl) w) ?_
            refine g_1 (fun w => lv_iload_n X.1 X.2.1 d_MD_stepFrom_56 rfl (lv_at hl 2 rfl) w) ?_
            refine g_1 (fun w => lv_iload_n X.1 X.2.1 d_MD_stepFrom_57 rfl (lv_at hl 1 rfl) w) ?_
            refine g_callV (na := 3) X (c_MD_gainOf B0 hm hv hw b j r (by omega) (by omega) (by omega)) rfl f0 rfl ⟨⟨tw_589, tw_5⟩, ⟨by decide, by decide, by decide +kernel⟩, by decide, by decide⟩ tw_586 tw_588 ts_MD_gainOf rfl hl.1 (Nat.le_of_ble_eq_true rfl) ⟨by decide, by decide⟩ d_MD_stepFrom_58 (fun v h' hp => ?_)
            obtain ⟨rfl, rfl⟩ := hp
            refine g_widen (k' := 0) (n' := 0) (by decide) (by decide) ?_
            show G D s0 p l e _ s m _ below meth c h _ _ _ (F0 m 61 ls [.long (lZ (bG (bs b) r - bG (bs b) j)), .int (iZ (bB (bs b) (i + 1) - bB (bs b) j)), .long (lZ (bG (bs b) (i + 1) - bG (bs b) j))])
            refine g_1 (fun w => lv_aload_n X.1 X.2.1 d_MD_stepFrom_61 rfl (lv_at hl 4 rfl) w) ?_
            refine g_1 (fun w => lv_iload_n X.1 X.2.1 d_MD_stepFrom_62 rfl (lv_at hl 3 rfl) w) ?_
            refine g_1 (fun w => lv_iload_n X.1 X.2.1 d_MD_stepFrom_63 rfl (lv_at hl 2 rfl) w) ?_
            refine g_1 (fun w => lv_iload_n X.1 X.2.1 d_MD_stepFrom_64 rfl (lv_at hl 1 rfl) w) ?_
            refine g_callV (na := 3) X (c_MD_bytesOf B0 hm hv hw b j r (by omega) (by omega) (by omega)) rfl f0 rfl ⟨⟨tw_593, tw_5⟩, ⟨by decide, by decide, by decide +kernel⟩, by decide, by decide⟩ tw_590 tw_592 ts_MD_bytesOf rfl hl.1 (Nat.le_of_ble_eq_true rfl) ⟨by decide, by decide⟩ d_MD_stepFrom_65 (fun v h' hp => ?_)
            obtain ⟨rfl, rfl⟩ := hp
            refine g_widen (k' := 0) (n' := 0) (by decide) (by decide) ?_
            show G D s0 p l e _ s m _ below meth c h _ _ _ (F0 m 68 ls [.int (iZ (bB (bs b) r - bB (bs b) j)), .long (lZ (bG (bs b) r - bG (bs b) j)), .int (iZ (bB (bs b) (i + 1) - bB (bs b) j)), .long (lZ (bG (bs b) (i + 1) - bG (bs b) j))])
            refine g_callS (na := 4) X (c_MD_compare B0 c28g (by omega) (by omega) (by omega) (by omega) (by omega) (by omega) (by omega)) rfl ⟨⟨tw_596, tw_5⟩, ⟨by decide, by decide, by decide +kernel⟩, by decide, by decide⟩ tw_594 tw_595 rfl hl.1 (Nat.le_of_ble_eq_true rfl) ⟨by decide, by decide⟩ d_MD_stepFrom_68 (fun v h' hp => ?_)
            obtain ⟨rfl, rfl⟩ := hp
            refine g_widen (k' := 0) (n' := 0) (by decide) (by decide) ?_
            show G D s0 p l e _ s m _ below meth c h _ _ _ (F0 m 71 ls [.int (iZ (cmpZ ((bG (bs b) (i + 1) - bG (bs b) j) * (bB (bs b) r - bB (bs b) j)) ((bG (bs b) r - bG (bs b) j) * (bB (bs b) (i + 1) - bB (bs b) j))))])
            refine g_if_lt (tgt := 77) X (cmpZ_ok _ _) d_MD_stepFrom_71 (by decide) (fun c71 => ?_) (fun c71 => ?_)
            · refine g_s (fun kk => lv_iinc (v := iZ (i + 1 + 1)) (lv' := [(4, .int (iZ (i + 1 + 1))), (3, .int (iZ (r))), (2, .int (iZ (j))), (1, .int (iZ (b))), (0, .ref a)]) X.1 X.2.1 d_MD_stepFrom_77 hl (k := 0) rfl (iZ_add _ _) (by decide) rfl kk) (fun ls hl => ?_)
              refine g_goto (tgt := 7) X d_MD_stepFrom_80 (by decide) ?_
              have e9 : sfr (bs b) j (i + 1) = r := (sfr_f (fun w => by
                rcases w.2.2 with y | y
                · omega
                · rw [er] at y
                  have x := cmpZ_ge.mpr y
                  omega)).trans er
              exact ih (i + 1) r (r : Int) ls (by omega) (by omega) e9 (Or.inr ⟨by omega, rfl⟩) (lv_sub hl [0, 1, 2, 3, 4] rfl)
            · refine g_1 (fun w => lv_iload X.1 X.2.1 d_MD_stepFrom_74 (lv_at hl 0 rfl) w) ?_
              refine g_s (fun kk => lv_istore_n (lv' := [(3, .int (iZ (i + 1))), (4, .int (iZ (i + 1))), (2, .int (iZ (j))), (1, .int (iZ (b))), (0, .ref a)]) X.1 X.2.1 d_MD_stepFrom_76 rfl hl (by decide) rfl kk) (fun ls hl => ?_)
              refine g_s (fun kk => lv_iinc (v := iZ (i + 1 + 1)) (lv' := [(4, .int (iZ (i + 1 + 1))), (3, .int (iZ (i + 1))), (2, .int (iZ (j))), (1, .int (iZ (b))), (0, .ref a)]) X.1 X.2.1 d_MD_stepFrom_77 hl (k := 1) rfl (iZ_add _ _) (by decide) rfl kk) (fun ls hl => ?_)
              refine g_goto (tgt := 7) X d_MD_stepFrom_80 (by decide) ?_
              have e9 : sfr (bs b) j (i + 1) = i + 1 := sfr_t (by omega) c28g (by first | exact Or.inl (by omega) | exact Or.inr (by rw [er]; exact cmpZ_ge.mp c71))
              exact ih (i + 1) (i + 1) ((i + 1 : Nat) : Int) ls (by omega) (by omega) e9 (Or.inr ⟨by omega, rfl⟩) (lv_sub hl [0, 1, 2, 3, 4] rfl)
        · refine g_goto (tgt := 77) X d_MD_stepFrom_31 (by decide) ?_
          refine g_s (fun kk => lv_iinc (v := iZ (i + 1 + 1)) (lv' := [(4, .int (iZ (i + 1 + 1))), (3, .int (iZ (v))), (2, .int (iZ (j))), (1, .int (iZ (b))), (0, .ref a)]) X.1 X.2.1 d_MD_stepFrom_77 hl (k := 0) rfl (iZ_add _ _) (by decide) rfl kk) (fun ls hl => ?_)
          refine g_goto (tgt := 7) X d_MD_stepFrom_80 (by decide) ?_
          have e9 : sfr (bs b) j (i + 1) = r := (sfr_f (fun w => by have x := cmpZ_gt.mpr w.2.1; omega)).trans er
          exact ih (i + 1) r v ls (by omega) (by omega) e9 ev (lv_sub hl [0, 1, 2, 3, 4] rfl)
  refine g_1 (fun w => lv_iconst (v := iZ (-1)) X.1 X.2.1 d_MD_stepFrom_0 rfl w) ?_
  refine g_s (fun kk => lv_istore_n (lv' := [(3, .int (iZ ((-1)))), (0, .ref a), (1, .int (iZ (b))), (2, .int (iZ (j)))]) X.1 X.2.1 d_MD_stepFrom_1 rfl hl (by decide) rfl kk) (fun ls hl => ?_)
  refine g_1 (fun w => lv_iload_n X.1 X.2.1 d_MD_stepFrom_2 rfl (lv_at hl 3 rfl) w) ?_
  refine g_1 (fun w => lv_iconst (v := iZ 1) X.1 X.2.1 d_MD_stepFrom_3 rfl w) ?_
  refine g_iadd X d_MD_stepFrom_4 ?_
  refine g_s (fun kk => lv_istore (lv' := [(4, .int (iZ (j + 1))), (3, .int (iZ ((-1)))), (0, .ref a), (1, .int (iZ (b))), (2, .int (iZ (j)))]) X.1 X.2.1 d_MD_stepFrom_5 hl (by decide) rfl kk) (fun ls hl => ?_)
  exact loop (bP (bs b) - j) j 0 (-1) ls (by omega) (Nat.le_refl _) (sfr_0 (Nat.le_refl _)) (Or.inl ⟨rfl, rfl⟩) (lv_sub hl [0, 1, 4, 3, 2] rfl)

set_option maxHeartbeats 4000000 in
set_option maxRecDepth 100000 in
theorem c_MD_countOf {D : va_G} {s0 : State} {l : Launch} {h : gH} (B0 : gB D s0) {a n : Nat} {M : Mdl} {bs : Nat → Blk} (hm : isMD D h a M) (hv : mV M n bs) (hw : ∀ b, b < n → wfC (bs b)) (b : Nat) (hb : b < n) : gMet D s0 l y_MD_countOf b_MD_countOf 4 (some .int) ({ frames := 2, cells := 0, slots := 0, locals := 53 } : Room) [.ref a, .int (iZ (b))] h (fun v h' => some (.int (iZ (bS (bs b)))) = v ∧ h = h') := by
  obtain ⟨p3, p4, p6, p7, p9, p10, p11, p12, p13, p14, f0, f3, f4, f6, f7, f9, f10, f11, f12, f13, f14⟩ := id hm
  obtain ⟨v1, v2, v3, v4, v5⟩ := id hv
  obtain ⟨u1, u2, u3⟩ := v5 b hb
  obtain ⟨⟨⟨k1, k2, k3, k4, k5, k6, k7, k8⟩, w2, w3, w4⟩, w5, w6⟩ := id (hw b hb)
  have wc := hw b hb
  refine g_enter B0 (plainFor_of_name (by decide)) (Nat.le_of_ble_eq_true rfl) (fun p e s m below meth c ls X hnm hl => ?_)
  have hl : lv_has ls 4 [(0, .ref a), (1, .int (iZ (b)))] := hl
  have loop : ∀ (d i : Nat) (v : Int) (ls : Array Slot), i + d = bS (bs b) → v = eN (sfr (bs b) (bC (bs b) i) (bP (bs b))) → lv_has ls 4 [(3, .int (iZ (v))), (2, .int (iZ (i))), (1, .int (iZ (b))), (0, .ref a)] → G D s0 p l e ({ frames := 2, cells := 0, slots := 0, locals := 53 } : Room) s m ([.ref a, .int (iZ (b))] : List Value).toArray below meth c h 0 0 (MQ below (gQ D s0 (fun v h' => some (.int (iZ (bS (bs b)))) = v ∧ h = h')) ([.ref a, .int (iZ (b))] : List Value).toArray s 0 0 (fun q => s0.heap.size ≤ q)) (F0 m 9 ls []) := by
    intro d
    induction d with
    | zero =>
      intro i v ls hi ev hl
      have ev2 : v = -1 := by rw [ev, show i = bS (bs b) by omega]; exact eN_0 w5.2
      refine g_1 (fun w => lv_iload_n X.1 X.2.1 d_MD_countOf_9 rfl (lv_at hl 0 rfl) w) ?_
      refine g_if_lt (tgt := 26) X (by first | exact ⟨by omega, by omega⟩ | (split <;> exact ⟨by omega, by omega⟩) | exact cmpZ_ok _ _ | exact mul_ok (by omega) (by omega) (by omega) (by omega)) d_MD_countOf_10 (by decide) (fun c10 => ?_) (fun c10 => ?_)
      · refine g_1 (fun w => lv_iload_n X.1 X.2.1 d_MD_countOf_26 rfl (lv_at hl 1 rfl) w) ?_
        exact g_iret X (⟨g_ei (by omega), rfl⟩) (by decide) (by decide) d_MD_countOf_27
      · exfalso
        omega
    | succ d ih =>
      intro i v ls hi ev hl
      have y1 := w3 i (by omega)
      have y2 := wc.cle (s := i + 1) (by omega)
      have ev2 : v = (bC (bs b) (i + 1) : Int) := by rw [ev, w5.1 i (by omega)]; exact eN_s (by omega)
      subst ev2
      refine g_1 (fun w => lv_iload_n X.1 X.2.1 d_MD_countOf_9 rfl (lv_at hl 0 rfl) w) ?_
      refine g_if_lt (tgt := 26) X (by first | exact ⟨by omega, by omega⟩ | (split <;> exact ⟨by omega, by omega⟩) | exact cmpZ_ok _ _ | exact mul_ok (by omega) (by omega) (by omega) (by omega)) d_MD_countOf_10 (by decide) (fun c10 => ?_) (fun c10 => ?_)
      · exfalso
        omega
      · refine g_s (fun kk => lv_iinc (v := iZ (i + 1)) (lv' := [(2, .int (iZ (i + 1))), (3, .int (iZ (bC (bs b) (i + 1)))), (1, .int (iZ (b))), (0, .ref a)]) X.1 X.2.1 d_MD_countOf_13 hl (k := 1) rfl (iZ_add _ _) (by decide) rfl kk) (fun ls hl => ?_)
        refine g_1 (fun w => lv_aload_n X.1 X.2.1 d_MD_countOf_16 rfl (lv_at hl 3 rfl) w) ?_
        refine g_1 (fun w => lv_iload_n X.1 X.2.1 d_MD_countOf_17 rfl (lv_at hl 2 rfl) w) ?_
        refine g_1 (fun w => lv_iload_n X.1 X.2.1 d_MD_countOf_18 rfl (lv_at hl 1 rfl) w) ?_
        refine g_callV (na := 2) X (c_MD_stepFrom B0 hm hv hw b (bC (bs b) (i + 1)) (by omega) (by omega)) rfl f0 rfl ⟨⟨tw_585, tw_5⟩, ⟨by decide, by decide, by decide +kernel⟩, by decide, by decide⟩ tw_582 tw_584 ts_MD_stepFrom rfl hl.1 (Nat.le_of_ble_eq_true rfl) ⟨by decide, by decide⟩ d_MD_countOf_19 (fun v h' hp => ?_)
        obtain ⟨rfl, rfl⟩ := hp
        refine g_widen (k' := 0) (n' := 0) (by decide) (by decide) ?_
        show G D s0 p l e _ s m _ below meth c h _ _ _ (F0 m 22 ls [.int (iZ (eN (sfr (bs b) (bC (bs b) (i + 1)) (bP (bs b)))))])
        refine g_s (fun kk => lv_istore_n (lv' := [(3, .int (iZ (eN (sfr (bs b) (bC (bs b) (i + 1)) (bP (bs b)))))), (2, .int (iZ (i + 1))), (1, .int (iZ (b))), (0, .ref a)]) X.1 X.2.1 d_MD_countOf_22 rfl hl (by decide) rfl kk) (fun ls hl => ?_)
        refine g_goto (tgt := 9) X d_MD_countOf_23 (by decide) ?_
        exact ih (i + 1) _ ls (by omega) rfl (lv_sub hl [0, 1, 2, 3] rfl)
  refine g_1 (fun w => lv_iconst (v := iZ 0) X.1 X.2.1 d_MD_countOf_0 rfl w) ?_
  refine g_s (fun kk => lv_istore_n (lv' := [(2, .int (iZ (0))), (0, .ref a), (1, .int (iZ (b)))]) X.1 X.2.1 d_MD_countOf_1 rfl hl (by decide) rfl kk) (fun ls hl => ?_)
  refine g_1 (fun w => lv_aload_n X.1 X.2.1 d_MD_countOf_2 rfl (lv_at hl 1 rfl) w) ?_
  refine g_1 (fun w => lv_iload_n X.1 X.2.1 d_MD_countOf_3 rfl (lv_at hl 2 rfl) w) ?_
  refine g_1 (fun w => lv_iconst (v := iZ 0) X.1 X.2.1 d_MD_countOf_4 rfl w) ?_
  refine g_callV (na := 2) X (c_MD_stepFrom B0 hm hv hw b 0 (by omega) (by omega)) rfl f0 rfl ⟨⟨tw_585, tw_5⟩, ⟨by decide, by decide, by decide +kernel⟩, by decide, by decide⟩ tw_582 tw_584 ts_MD_stepFrom rfl hl.1 (Nat.le_of_ble_eq_true rfl) ⟨by decide, by decide⟩ d_MD_countOf_5 (fun v h' hp => ?_)
  obtain ⟨rfl, rfl⟩ := hp
  refine g_widen (k' := 0) (n' := 0) (by decide) (by decide) ?_
  show G D s0 p l e _ s m _ below meth c h _ _ _ (F0 m 8 ls [.int (iZ (eN (sfr (bs b) 0 (bP (bs b)))))])
  refine g_s (fun kk => lv_istore_n (lv' := [(3, .int (iZ (eN (sfr (bs b) 0 (bP (bs b)))))), (2, .int (iZ (0))), (0, .ref a), (1, .int (iZ (b)))]) X.1 X.2.1 d_MD_countOf_8 rfl hl (by decide) rfl kk) (fun ls hl => ?_)
  exact loop (bS (bs b)) 0 _ ls (by omega) (by rw [w2]) (lv_sub hl [0, 1, 3, 2] rfl)

set_option maxHeartbeats 4000000 in
set_option maxRecDepth 100000 in
theorem c_MD_beginOf {D : va_G} {s0 : State} {l : Launch} {h : gH} (B0 : gB D s0) {a n : Nat} {M : Mdl} {bs : Nat → Blk} (hm : isMD D h a M) (hv : mV M n bs) (hw : ∀ b, b < n → wfC (bs b)) (b : Nat) (hb : b < n) {i : Int} (hi : i_ok i) : gMet D s0 l y_MD_beginOf b_MD_beginOf 5 (some .int) ({ frames := 2, cells := 0, slots := 0, locals := 53 } : Room) [.ref a, .int (iZ (b)), .int (iZ (i))] h (fun v h' => some (.int (iZ (if 0 ≤ i ∧ i < bS (bs b) then (bC (bs b) i.toNat : Int) else -1))) = v ∧ h = h') := by
  obtain ⟨p3, p4, p6, p7, p9, p10, p11, p12, p13, p14, f0, f3, f4, f6, f7, f9, f10, f11, f12, f13, f14⟩ := id hm
  obtain ⟨v1, v2, v3, v4, v5⟩ := id hv
  obtain ⟨u1, u2, u3⟩ := v5 b hb
  obtain ⟨⟨⟨k1, k2, k3, k4, k5, k6, k7, k8⟩, w2, w3, w4⟩, w5, w6⟩ := id (hw b hb)
  have wc := hw b hb
  obtain ⟨hi1, hi2⟩ := id hi
  refine g_enter B0 (plainFor_of_name (by decide)) (Nat.le_of_ble_eq_true rfl) (fun p e s m below meth c ls X hnm hl => ?_)
  have hl : lv_has ls 5 [(0, .ref a), (1, .int (iZ (b))), (2, .int (iZ (i)))] := hl
  have loop : ∀ (d s1 : Nat) (ls : Array Slot), s1 + d = bS (bs b) → (s1 = 0 ∨ s1 ≤ i) → lv_has ls 5 [(4, .int (iZ (s1))), (3, .int (iZ (bC (bs b) s1))), (2, .int (iZ (i))), (1, .int (iZ (b))), (0, .ref a)] → G D s0 p l e ({ frames := 2, cells := 0, slots := 0, locals := 53 } : Room) s m ([.ref a, .int (iZ (b)), .int (iZ (i))] : List Value).toArray below meth c h 0 0 (MQ below (gQ D s0 (fun v h' => some (.int (iZ (if 0 ≤ i ∧ i < bS (bs b) then (bC (bs b) i.toNat : Int) else -1))) = v ∧ h = h')) ([.ref a, .int (iZ (b)), .int (iZ (i))] : List Value).toArray s 0 0 (fun q => s0.heap.size ≤ q)) (F0 m 5 ls []) := by
    intro d
    induction d with
    | zero =>
      intro s1 ls hs1 hsi hl
      have y2 := wc.cle (s := s1) (by omega)
      have he : eN (sfr (bs b) (bC (bs b) s1) (bP (bs b))) = -1 := by rw [show s1 = bS (bs b) by omega]; exact eN_0 w5.2
      refine g_1 (fun w => lv_iload X.1 X.2.1 d_MD_beginOf_5 (lv_at hl 0 rfl) w) ?_
      refine g_1 (fun w => lv_iload_n X.1 X.2.1 d_MD_beginOf_7 rfl (lv_at hl 2 rfl) w) ?_
      refine g_icmp_ge (tgt := 33) X (by first | exact ⟨by omega, by omega⟩ | (split <;> exact ⟨by omega, by omega⟩) | exact cmpZ_ok _ _ | exact mul_ok (by omega) (by omega) (by omega) (by omega)) (by first | exact ⟨by omega, by omega⟩ | (split <;> exact ⟨by omega, by omega⟩) | exact cmpZ_ok _ _ | exact mul_ok (by omega) (by omega) (by omega) (by omega)) d_MD_beginOf_8 (by decide) (fun c8 => ?_) (fun c8 => ?_)
      · refine g_1 (fun w => lv_iload_n X.1 X.2.1 d_MD_beginOf_33 rfl (lv_at hl 2 rfl) w) ?_
        refine g_if_lt (tgt := 56) X (by first | exact ⟨by omega, by omega⟩ | (split <;> exact ⟨by omega, by omega⟩) | exact cmpZ_ok _ _ | exact mul_ok (by omega) (by omega) (by omega) (by omega)) d_MD_beginOf_34 (by decide) (fun c34 => ?_) (fun c34 => ?_)
        · refine g_1 (fun w => lv_iconst (v := iZ (-1)) X.1 X.2.1 d_MD_beginOf_56 rfl w) ?_
          exact g_iret X (⟨g_ei (by first | (rw [if_neg (by omega)]; done) | (rw [if_pos (by omega), show i.toNat = s1 by omega])), rfl⟩) (by decide) (by decide) d_MD_beginOf_57
        · refine g_1 (fun w => lv_iload X.1 X.2.1 d_MD_beginOf_37 (lv_at hl 0 rfl) w) ?_
          refine g_1 (fun w => lv_iload_n X.1 X.2.1 d_MD_beginOf_39 rfl (lv_at hl 2 rfl) w) ?_
          refine g_icmp_ne (tgt := 56) X (by first | exact ⟨by omega, by omega⟩ | (split <;> exact ⟨by omega, by omega⟩) | exact cmpZ_ok _ _ | exact mul_ok (by omega) (by omega) (by omega) (by omega)) (by first | exact ⟨by omega, by omega⟩ | (split <;> exact ⟨by omega, by omega⟩) | exact cmpZ_ok _ _ | exact mul_ok (by omega) (by omega) (by omega) (by omega)) d_MD_beginOf_40 (by decide) (fun c40 => ?_) (fun c40 => ?_)
          · refine g_1 (fun w => lv_iconst (v := iZ (-1)) X.1 X.2.1 d_MD_beginOf_56 rfl w) ?_
            exact g_iret X (⟨g_ei (by first | (rw [if_neg (by omega)]; done) | (rw [if_pos (by omega), show i.toNat = s1 by omega])), rfl⟩) (by decide) (by decide) d_MD_beginOf_57
          · refine g_1 (fun w => lv_aload_n X.1 X.2.1 d_MD_beginOf_43 rfl (lv_at hl 4 rfl) w) ?_
            refine g_1 (fun w => lv_iload_n X.1 X.2.1 d_MD_beginOf_44 rfl (lv_at hl 3 rfl) w) ?_
            refine g_1 (fun w => lv_iload_n X.1 X.2.1 d_MD_beginOf_45 rfl (lv_at hl 1 rfl) w) ?_
            refine g_callV (na := 2) X (c_MD_stepFrom B0 hm hv hw b (bC (bs b) s1) (by omega) (by omega)) rfl f0 rfl ⟨⟨tw_585, tw_5⟩, ⟨by decide, by decide, by decide +kernel⟩, by decide, by decide⟩ tw_582 tw_584 ts_MD_stepFrom rfl hl.1 (Nat.le_of_ble_eq_true rfl) ⟨by decide, by decide⟩ d_MD_beginOf_46 (fun v h' hp => ?_)
            obtain ⟨rfl, rfl⟩ := hp
            refine g_widen (k' := 0) (n' := 0) (by decide) (by decide) ?_
            show G D s0 p l e _ s m _ below meth c h _ _ _ (F0 m 49 ls [.int (iZ (eN (sfr (bs b) (bC (bs b) s1) (bP (bs b)))))])
            refine g_ti (congrArg iZ (show (eN (sfr (bs b) (bC (bs b) s1) (bP (bs b))) : Int) = (-1) from he)) ?_
            refine g_if_lt (tgt := 56) X (by first | exact ⟨by omega, by omega⟩ | (split <;> exact ⟨by omega, by omega⟩) | exact cmpZ_ok _ _ | exact mul_ok (by omega) (by omega) (by omega) (by omega)) d_MD_beginOf_49 (by decide) (fun c49 => ?_) (fun c49 => ?_)
            · refine g_1 (fun w => lv_iconst (v := iZ (-1)) X.1 X.2.1 d_MD_beginOf_56 rfl w) ?_
              exact g_iret X (⟨g_ei (by first | (rw [if_neg (by omega)]; done) | (rw [if_pos (by omega), show i.toNat = s1 by omega])), rfl⟩) (by decide) (by decide) d_MD_beginOf_57
            · exact absurd c49 (by decide)
      · refine g_1 (fun w => lv_aload_n X.1 X.2.1 d_MD_beginOf_11 rfl (lv_at hl 4 rfl) w) ?_
        refine g_1 (fun w => lv_iload_n X.1 X.2.1 d_MD_beginOf_12 rfl (lv_at hl 3 rfl) w) ?_
        refine g_1 (fun w => lv_iload_n X.1 X.2.1 d_MD_beginOf_13 rfl (lv_at hl 1 rfl) w) ?_
        refine g_callV (na := 2) X (c_MD_stepFrom B0 hm hv hw b (bC (bs b) s1) (by omega) (by omega)) rfl f0 rfl ⟨⟨tw_585, tw_5⟩, ⟨by decide, by decide, by decide +kernel⟩, by decide, by decide⟩ tw_582 tw_584 ts_MD_stepFrom rfl hl.1 (Nat.le_of_ble_eq_true rfl) ⟨by decide, by decide⟩ d_MD_beginOf_14 (fun v h' hp => ?_)
        obtain ⟨rfl, rfl⟩ := hp
        refine g_widen (k' := 0) (n' := 0) (by decide) (by decide) ?_
        show G D s0 p l e _ s m _ below meth c h _ _ _ (F0 m 17 ls [.int (iZ (eN (sfr (bs b) (bC (bs b) s1) (bP (bs b)))))])
        refine g_ti (congrArg iZ (show (eN (sfr (bs b) (bC (bs b) s1) (bP (bs b))) : Int) = (-1) from he)) ?_
        refine g_if_lt (tgt := 33) X (by first | exact ⟨by omega, by omega⟩ | (split <;> exact ⟨by omega, by omega⟩) | exact cmpZ_ok _ _ | exact mul_ok (by omega) (by omega) (by omega) (by omega)) d_MD_beginOf_17 (by decide) (fun c17 => ?_) (fun c17 => ?_)
        · refine g_1 (fun w => lv_iload_n X.1 X.2.1 d_MD_beginOf_33 rfl (lv_at hl 2 rfl) w) ?_
          refine g_if_lt (tgt := 56) X (by first | exact ⟨by omega, by omega⟩ | (split <;> exact ⟨by omega, by omega⟩) | exact cmpZ_ok _ _ | exact mul_ok (by omega) (by omega) (by omega) (by omega)) d_MD_beginOf_34 (by decide) (fun c34 => ?_) (fun c34 => ?_)
          · refine g_1 (fun w => lv_iconst (v := iZ (-1)) X.1 X.2.1 d_MD_beginOf_56 rfl w) ?_
            exact g_iret X (⟨g_ei (by first | (rw [if_neg (by omega)]; done) | (rw [if_pos (by omega), show i.toNat = s1 by omega])), rfl⟩) (by decide) (by decide) d_MD_beginOf_57
          · refine g_1 (fun w => lv_iload X.1 X.2.1 d_MD_beginOf_37 (lv_at hl 0 rfl) w) ?_
            refine g_1 (fun w => lv_iload_n X.1 X.2.1 d_MD_beginOf_39 rfl (lv_at hl 2 rfl) w) ?_
            refine g_icmp_ne (tgt := 56) X (by first | exact ⟨by omega, by omega⟩ | (split <;> exact ⟨by omega, by omega⟩) | exact cmpZ_ok _ _ | exact mul_ok (by omega) (by omega) (by omega) (by omega)) (by first | exact ⟨by omega, by omega⟩ | (split <;> exact ⟨by omega, by omega⟩) | exact cmpZ_ok _ _ | exact mul_ok (by omega) (by omega) (by omega) (by omega)) d_MD_beginOf_40 (by decide) (fun c40 => ?_) (fun c40 => ?_)
            · refine g_1 (fun w => lv_iconst (v := iZ (-1)) X.1 X.2.1 d_MD_beginOf_56 rfl w) ?_
              exact g_iret X (⟨g_ei (by first | (rw [if_neg (by omega)]; done) | (rw [if_pos (by omega), show i.toNat = s1 by omega])), rfl⟩) (by decide) (by decide) d_MD_beginOf_57
            · refine g_1 (fun w => lv_aload_n X.1 X.2.1 d_MD_beginOf_43 rfl (lv_at hl 4 rfl) w) ?_
              refine g_1 (fun w => lv_iload_n X.1 X.2.1 d_MD_beginOf_44 rfl (lv_at hl 3 rfl) w) ?_
              refine g_1 (fun w => lv_iload_n X.1 X.2.1 d_MD_beginOf_45 rfl (lv_at hl 1 rfl) w) ?_
              refine g_callV (na := 2) X (c_MD_stepFrom B0 hm hv hw b (bC (bs b) s1) (by omega) (by omega)) rfl f0 rfl ⟨⟨tw_585, tw_5⟩, ⟨by decide, by decide, by decide +kernel⟩, by decide, by decide⟩ tw_582 tw_584 ts_MD_stepFrom rfl hl.1 (Nat.le_of_ble_eq_true rfl) ⟨by decide, by decide⟩ d_MD_beginOf_46 (fun v h' hp => ?_)
              obtain ⟨rfl, rfl⟩ := hp
              refine g_widen (k' := 0) (n' := 0) (by decide) (by decide) ?_
              show G D s0 p l e _ s m _ below meth c h _ _ _ (F0 m 49 ls [.int (iZ (eN (sfr (bs b) (bC (bs b) s1) (bP (bs b)))))])
              refine g_ti (congrArg iZ (show (eN (sfr (bs b) (bC (bs b) s1) (bP (bs b))) : Int) = (-1) from he)) ?_
              refine g_if_lt (tgt := 56) X (by first | exact ⟨by omega, by omega⟩ | (split <;> exact ⟨by omega, by omega⟩) | exact cmpZ_ok _ _ | exact mul_ok (by omega) (by omega) (by omega) (by omega)) d_MD_beginOf_49 (by decide) (fun c49 => ?_) (fun c49 => ?_)
              · refine g_1 (fun w => lv_iconst (v := iZ (-1)) X.1 X.2.1 d_MD_beginOf_56 rfl w) ?_
                exact g_iret X (⟨g_ei (by first | (rw [if_neg (by omega)]; done) | (rw [if_pos (by omega), show i.toNat = s1 by omega])), rfl⟩) (by decide) (by decide) d_MD_beginOf_57
              · exact absurd c49 (by decide)
        · exact absurd c17 (by decide)
    | succ d ih =>
      intro s1 ls hs1 hsi hl
      have y1 := w3 s1 (by omega)
      have y2 := wc.cle (s := s1) (by omega)
      have he : eN (sfr (bs b) (bC (bs b) s1) (bP (bs b))) = (bC (bs b) (s1 + 1) : Int) := by rw [w5.1 s1 (by omega)]; exact eN_s (by omega)
      refine g_1 (fun w => lv_iload X.1 X.2.1 d_MD_beginOf_5 (lv_at hl 0 rfl) w) ?_
      refine g_1 (fun w => lv_iload_n X.1 X.2.1 d_MD_beginOf_7 rfl (lv_at hl 2 rfl) w) ?_
      refine g_icmp_ge (tgt := 33) X (by first | exact ⟨by omega, by omega⟩ | (split <;> exact ⟨by omega, by omega⟩) | exact cmpZ_ok _ _ | exact mul_ok (by omega) (by omega) (by omega) (by omega)) (by first | exact ⟨by omega, by omega⟩ | (split <;> exact ⟨by omega, by omega⟩) | exact cmpZ_ok _ _ | exact mul_ok (by omega) (by omega) (by omega) (by omega)) d_MD_beginOf_8 (by decide) (fun c8 => ?_) (fun c8 => ?_)
      · refine g_1 (fun w => lv_iload_n X.1 X.2.1 d_MD_beginOf_33 rfl (lv_at hl 2 rfl) w) ?_
        refine g_if_lt (tgt := 56) X (by first | exact ⟨by omega, by omega⟩ | (split <;> exact ⟨by omega, by omega⟩) | exact cmpZ_ok _ _ | exact mul_ok (by omega) (by omega) (by omega) (by omega)) d_MD_beginOf_34 (by decide) (fun c34 => ?_) (fun c34 => ?_)
        · refine g_1 (fun w => lv_iconst (v := iZ (-1)) X.1 X.2.1 d_MD_beginOf_56 rfl w) ?_
          exact g_iret X (⟨g_ei (by first | (rw [if_neg (by omega)]; done) | (rw [if_pos (by omega), show i.toNat = s1 by omega])), rfl⟩) (by decide) (by decide) d_MD_beginOf_57
        · refine g_1 (fun w => lv_iload X.1 X.2.1 d_MD_beginOf_37 (lv_at hl 0 rfl) w) ?_
          refine g_1 (fun w => lv_iload_n X.1 X.2.1 d_MD_beginOf_39 rfl (lv_at hl 2 rfl) w) ?_
          refine g_icmp_ne (tgt := 56) X (by first | exact ⟨by omega, by omega⟩ | (split <;> exact ⟨by omega, by omega⟩) | exact cmpZ_ok _ _ | exact mul_ok (by omega) (by omega) (by omega) (by omega)) (by first | exact ⟨by omega, by omega⟩ | (split <;> exact ⟨by omega, by omega⟩) | exact cmpZ_ok _ _ | exact mul_ok (by omega) (by omega) (by omega) (by omega)) d_MD_beginOf_40 (by decide) (fun c40 => ?_) (fun c40 => ?_)
          · refine g_1 (fun w => lv_iconst (v := iZ (-1)) X.1 X.2.1 d_MD_beginOf_56 rfl w) ?_
            exact g_iret X (⟨g_ei (by first | (rw [if_neg (by omega)]; done) | (rw [if_pos (by omega), show i.toNat = s1 by omega])), rfl⟩) (by decide) (by decide) d_MD_beginOf_57
          · refine g_1 (fun w => lv_aload_n X.1 X.2.1 d_MD_beginOf_43 rfl (lv_at hl 4 rfl) w) ?_
            refine g_1 (fun w => lv_iload_n X.1 X.2.1 d_MD_beginOf_44 rfl (lv_at hl 3 rfl) w) ?_
            refine g_1 (fun w => lv_iload_n X.1 X.2.1 d_MD_beginOf_45 rfl (lv_at hl 1 rfl) w) ?_
            refine g_callV (na := 2) X (c_MD_stepFrom B0 hm hv hw b (bC (bs b) s1) (by omega) (by omega)) rfl f0 rfl ⟨⟨tw_585, tw_5⟩, ⟨by decide, by decide, by decide +kernel⟩, by decide, by decide⟩ tw_582 tw_584 ts_MD_stepFrom rfl hl.1 (Nat.le_of_ble_eq_true rfl) ⟨by decide, by decide⟩ d_MD_beginOf_46 (fun v h' hp => ?_)
            obtain ⟨rfl, rfl⟩ := hp
            refine g_widen (k' := 0) (n' := 0) (by decide) (by decide) ?_
            show G D s0 p l e _ s m _ below meth c h _ _ _ (F0 m 49 ls [.int (iZ (eN (sfr (bs b) (bC (bs b) s1) (bP (bs b)))))])
            refine g_ti (congrArg iZ (show (eN (sfr (bs b) (bC (bs b) s1) (bP (bs b))) : Int) = bC (bs b) (s1 + 1) from he)) ?_
            refine g_if_lt (tgt := 56) X (by first | exact ⟨by omega, by omega⟩ | (split <;> exact ⟨by omega, by omega⟩) | exact cmpZ_ok _ _ | exact mul_ok (by omega) (by omega) (by omega) (by omega)) d_MD_beginOf_49 (by decide) (fun c49 => ?_) (fun c49 => ?_)
            · refine g_1 (fun w => lv_iconst (v := iZ (-1)) X.1 X.2.1 d_MD_beginOf_56 rfl w) ?_
              exact g_iret X (⟨g_ei (by first | (rw [if_neg (by omega)]; done) | (rw [if_pos (by omega), show i.toNat = s1 by omega])), rfl⟩) (by decide) (by decide) d_MD_beginOf_57
            · refine g_1 (fun w => lv_iload_n X.1 X.2.1 d_MD_beginOf_52 rfl (lv_at hl 1 rfl) w) ?_
              refine g_goto (tgt := 57) X d_MD_beginOf_53 (by decide) ?_
              exact g_iret X (⟨g_ei (by first | (rw [if_neg (by omega)]; done) | (rw [if_pos (by omega), show i.toNat = s1 by omega])), rfl⟩) (by decide) (by decide) d_MD_beginOf_57
      · refine g_1 (fun w => lv_aload_n X.1 X.2.1 d_MD_beginOf_11 rfl (lv_at hl 4 rfl) w) ?_
        refine g_1 (fun w => lv_iload_n X.1 X.2.1 d_MD_beginOf_12 rfl (lv_at hl 3 rfl) w) ?_
        refine g_1 (fun w => lv_iload_n X.1 X.2.1 d_MD_beginOf_13 rfl (lv_at hl 1 rfl) w) ?_
        refine g_callV (na := 2) X (c_MD_stepFrom B0 hm hv hw b (bC (bs b) s1) (by omega) (by omega)) rfl f0 rfl ⟨⟨tw_585, tw_5⟩, ⟨by decide, by decide, by decide +kernel⟩, by decide, by decide⟩ tw_582 tw_584 ts_MD_stepFrom rfl hl.1 (Nat.le_of_ble_eq_true rfl) ⟨by decide, by decide⟩ d_MD_beginOf_14 (fun v h' hp => ?_)
        obtain ⟨rfl, rfl⟩ := hp
        refine g_widen (k' := 0) (n' := 0) (by decide) (by decide) ?_
        show G D s0 p l e _ s m _ below meth c h _ _ _ (F0 m 17 ls [.int (iZ (eN (sfr (bs b) (bC (bs b) s1) (bP (bs b)))))])
        refine g_ti (congrArg iZ (show (eN (sfr (bs b) (bC (bs b) s1) (bP (bs b))) : Int) = bC (bs b) (s1 + 1) from he)) ?_
        refine g_if_lt (tgt := 33) X (by first | exact ⟨by omega, by omega⟩ | (split <;> exact ⟨by omega, by omega⟩) | exact cmpZ_ok _ _ | exact mul_ok (by omega) (by omega) (by omega) (by omega)) d_MD_beginOf_17 (by decide) (fun c17 => ?_) (fun c17 => ?_)
        · exfalso
          omega
        · refine g_1 (fun w => lv_aload_n X.1 X.2.1 d_MD_beginOf_20 rfl (lv_at hl 4 rfl) w) ?_
          refine g_1 (fun w => lv_iload_n X.1 X.2.1 d_MD_beginOf_21 rfl (lv_at hl 3 rfl) w) ?_
          refine g_1 (fun w => lv_iload_n X.1 X.2.1 d_MD_beginOf_22 rfl (lv_at hl 1 rfl) w) ?_
          refine g_callV (na := 2) X (c_MD_stepFrom B0 hm hv hw b (bC (bs b) s1) (by omega) (by omega)) rfl f0 rfl ⟨⟨tw_585, tw_5⟩, ⟨by decide, by decide, by decide +kernel⟩, by decide, by decide⟩ tw_582 tw_584 ts_MD_stepFrom rfl hl.1 (Nat.le_of_ble_eq_true rfl) ⟨by decide, by decide⟩ d_MD_beginOf_23 (fun v h' hp => ?_)
          obtain ⟨rfl, rfl⟩ := hp
          refine g_widen (k' := 0) (n' := 0) (by decide) (by decide) ?_
          show G D s0 p l e _ s m _ below meth c h _ _ _ (F0 m 26 ls [.int (iZ (eN (sfr (bs b) (bC (bs b) s1) (bP (bs b)))))])
          refine g_ti (congrArg iZ (show (eN (sfr (bs b) (bC (bs b) s1) (bP (bs b))) : Int) = bC (bs b) (s1 + 1) from he)) ?_
          refine g_s (fun kk => lv_istore_n (lv' := [(3, .int (iZ (bC (bs b) (s1 + 1)))), (4, .int (iZ (s1))), (2, .int (iZ (i))), (1, .int (iZ (b))), (0, .ref a)]) X.1 X.2.1 d_MD_beginOf_26 rfl hl (by decide) rfl kk) (fun ls hl => ?_)
          refine g_s (fun kk => lv_iinc (v := iZ (s1 + 1)) (lv' := [(4, .int (iZ (s1 + 1))), (3, .int (iZ (bC (bs b) (s1 + 1)))), (2, .int (iZ (i))), (1, .int (iZ (b))), (0, .ref a)]) X.1 X.2.1 d_MD_beginOf_27 hl (k := 1) rfl (iZ_add _ _) (by decide) rfl kk) (fun ls hl => ?_)
          refine g_goto (tgt := 5) X d_MD_beginOf_30 (by decide) ?_
          exact ih (s1 + 1) ls (by omega) (Or.inr (by omega)) (lv_sub hl [0, 1, 2, 3, 4] rfl)
  refine g_1 (fun w => lv_iconst (v := iZ 0) X.1 X.2.1 d_MD_beginOf_0 rfl w) ?_
  refine g_s (fun kk => lv_istore_n (lv' := [(3, .int (iZ (0))), (0, .ref a), (1, .int (iZ (b))), (2, .int (iZ (i)))]) X.1 X.2.1 d_MD_beginOf_1 rfl hl (by decide) rfl kk) (fun ls hl => ?_)
  refine g_1 (fun w => lv_iconst (v := iZ 0) X.1 X.2.1 d_MD_beginOf_2 rfl w) ?_
  refine g_s (fun kk => lv_istore (lv' := [(4, .int (iZ (0))), (3, .int (iZ (0))), (0, .ref a), (1, .int (iZ (b))), (2, .int (iZ (i)))]) X.1 X.2.1 d_MD_beginOf_3 hl (by decide) rfl kk) (fun ls hl => ?_)
  exact loop (bS (bs b)) 0 ls (by omega) (Or.inl rfl) (by rw [w2]; exact lv_sub hl [0, 1, 4, 3, 2] rfl)
