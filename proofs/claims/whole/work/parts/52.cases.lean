set_option maxHeartbeats 4000000 in
set_option maxRecDepth 100000 in
theorem law_0 {D : va_G} {s0 : State} {p : Program} {l : Launch} {e : Env} {m : MethodId} {below : List Frame} {meth : Method} {c : Code} {b L x a o i k n : Nat} {xs : Nat → Int} {h : gH} {ls : Array Slot} (B0 : gB D s0) (hfl : l.flags = flags0) (X : gX D s0 "LayerBudgetsLaw" code 8 ret p s0 m meth c) (hkn : k + 5 ≤ 601024 ∧ n + 2628 ≤ 7293034) (hi : i + 5 ≤ L) (hL : L ≤ 2560) (hxs : ∀ j, i_ok (xs j)) (hX : scrX s0 b L xs) (hS : lawS D h x a o)
    (kont : ∀ (h' : gH) (ls' : Array Slot), lawS D h' x a o → lv_has ls' 8 [(4, .int (iZ i)), (3, .ref o), (2, .ref a), (1, .ref x), (0, .ref b)] → GL D s0 p l e m below meth c b h' (k + 5) (n + 2628) (F0 m 666 ls' []))
    (hl : lv_has ls 8 [(4, .int (iZ i)), (3, .ref o), (2, .ref a), (1, .ref x), (0, .ref b)]) : GL D s0 p l e m below meth c b h k n (F0 m 92 ls []) := by
  obtain ⟨A, bs, Y, ys, pn, tb, M, g0, hx, hm, fo, hI⟩ := hS
  have hpn := hI.pn
  obtain ⟨I1, I2, I3, ⟨I4, I5⟩, I6, I7, I8, I9⟩ := id hI
  obtain ⟨hk1, hk2⟩ := id hkn
  have hAl : A.length ≤ 1024 := hpn.2.2.1
  have hYl : Y.length ≤ 64 := hpn.2.2.2
  have hbo : ∀ i, i < A.length → okB (bs i) := fun i hi => (I1 i hi).1.1
  obtain ⟨bl, yl, fX, -⟩ := id hx
  obtain ⟨p3, p4, p6, p7, p9, p10, p11, p12, p13, p14, f0, f3, f4, f6, f7, f9, f10, f11, f12, f13, f14⟩ := id hm
  refine g_1 (fun w => lv_aload_n X.1 X.2.1 d_LW_law_92 rfl (lv_at hl 3 rfl) w) ?_
  refine g_callV (na := 0) X (c_LB_clear B0 hx hAl hYl hbo I7) rfl fX rfl ⟨⟨tw_71, tw_1⟩, ⟨by decide, by decide, by decide +kernel⟩, by decide, by decide⟩ tw_68 tw_69 tw_70 rfl hl.1 (Nat.le_of_ble_eq_true rfl) ⟨by show k + 0 ≤ 601024; omega, by show n + 0 ≤ 7293034; omega⟩ d_LW_law_93 (fun v h1 hp => ?_)
  obtain ⟨rfl, hx, hkL⟩ := hp
  have hm := kp_LB_MD hm hkL
  have fo := kp_oLB hkL fo
  obtain ⟨bl, yl, fX, -⟩ := id hx
  obtain ⟨p3, p4, p6, p7, p9, p10, p11, p12, p13, p14, f0, f3, f4, f6, f7, f9, f10, f11, f12, f13, f14⟩ := id hm
  refine g_widen (k' := k + 5) (n' := n + 2628) (by show k + 0 ≤ k + 5; omega) (by show n + 0 ≤ n + 2628; omega) ?_
  show G D s0 p l e _ s0 m _ below meth c h1 _ _ _ (F0 m 96 ls [])
  refine g_1 (fun w => lv_aload_n X.1 X.2.1 d_LW_law_96 rfl (lv_at hl 2 rfl) w) ?_
  refine g_callV (na := 0) X (c_MD_clear B0 hm) rfl f0 rfl ⟨⟨tw_555, tw_5⟩, ⟨by decide, by decide, by decide +kernel⟩, by decide, by decide⟩ tw_552 tw_553 tw_554 rfl hl.1 (Nat.le_of_ble_eq_true rfl) ⟨by show k + 5 + 0 ≤ 601024; omega, by show n + 2628 + 0 ≤ 7293034; omega⟩ d_LW_law_97 (fun v h2 hp => ?_)
  obtain ⟨rfl, hm, hkM⟩ := hp
  have hx := kp_MD_LB hx hkM
  have fo := kp_oMD hkM fo
  refine g_widen (k' := k + 5) (n' := n + 2628) (by show k + 5 + 0 ≤ k + 5; omega) (by show n + 2628 + 0 ≤ n + 2628; omega) ?_
  show G D s0 p l e _ s0 m _ below meth c h2 _ _ _ (F0 m 100 ls [])
  refine g_goto (tgt := 666) X d_LW_law_100 (by decide) ?_
  exact kont h2 ls ⟨[], bs, [], ys, 0, 0, _, g0, hx, hm, fo, INV_clear bs ys M⟩ (lv_sub hl [0, 1, 2, 3, 4] rfl)

set_option maxHeartbeats 4000000 in
set_option maxRecDepth 100000 in
theorem law_6 {D : va_G} {s0 : State} {p : Program} {l : Launch} {e : Env} {m : MethodId} {below : List Frame} {meth : Method} {c : Code} {b L x a o i k n : Nat} {xs : Nat → Int} {h : gH} {ls : Array Slot} (B0 : gB D s0) (hfl : l.flags = flags0) (X : gX D s0 "LayerBudgetsLaw" code 8 ret p s0 m meth c) (hkn : k + 5 ≤ 601024 ∧ n + 2628 ≤ 7293034) (hi : i + 5 ≤ L) (hL : L ≤ 2560) (hxs : ∀ j, i_ok (xs j)) (hX : scrX s0 b L xs) (hS : lawS D h x a o)
    (kont : ∀ (h' : gH) (ls' : Array Slot), lawS D h' x a o → lv_has ls' 8 [(4, .int (iZ i)), (3, .ref o), (2, .ref a), (1, .ref x), (0, .ref b)] → GL D s0 p l e m below meth c b h' (k + 5) (n + 2628) (F0 m 666 ls' []))
    (hl : lv_has ls 8 [(4, .int (iZ i)), (3, .ref o), (2, .ref a), (1, .ref x), (0, .ref b)]) : GL D s0 p l e m below meth c b h k n (F0 m 462 ls []) := by
  obtain ⟨A, bs, Y, ys, pn, tb, M, g0, hx, hm, fo, hI⟩ := hS
  have hpn := hI.pn
  obtain ⟨I1, I2, I3, ⟨I4, I5⟩, I6, I7, I8, I9⟩ := id hI
  obtain ⟨hk1, hk2⟩ := id hkn
  have hAl : A.length ≤ 1024 := hpn.2.2.1
  have hYl : Y.length ≤ 64 := hpn.2.2.2
  have hbo : ∀ i, i < A.length → okB (bs i) := fun i hi => (I1 i hi).1.1
  obtain ⟨bl, yl, fX, -⟩ := id hx
  obtain ⟨p3, p4, p6, p7, p9, p10, p11, p12, p13, p14, f0, f3, f4, f6, f7, f9, f10, f11, f12, f13, f14⟩ := id hm
  refine g_1 (fun w => lv_aload_n X.1 X.2.1 d_LW_law_462 rfl (lv_at hl 3 rfl) w) ?_
  refine g_callV (na := 0) X (c_LB_layers B0 hx hAl hYl) rfl fX rfl ⟨⟨tw_111, tw_1⟩, ⟨by decide, by decide, by decide +kernel⟩, by decide, by decide⟩ tw_108 tw_109 tw_110 rfl hl.1 (Nat.le_of_ble_eq_true rfl) ⟨by show k + 0 ≤ 601024; omega, by show n + 0 ≤ 7293034; omega⟩ d_LW_law_463 (fun v h1 hp => ?_)
  obtain ⟨rfl, rfl⟩ := hp
  refine g_widen (k' := k + 5) (n' := n + 2628) (by show k + 0 ≤ k + 5; omega) (by show n + 0 ≤ n + 2628; omega) ?_
  show G D s0 p l e _ s0 m _ below meth c h _ _ _ (F0 m 466 ls [.int (iZ (Y.length))])
  refine g_1 (fun w => lv_aload_n X.1 X.2.1 d_LW_law_466 rfl (lv_at hl 2 rfl) w) ?_
  refine g_callV (na := 0) X (c_MD_layers B0 hm) rfl f0 rfl ⟨⟨tw_637, tw_5⟩, ⟨by decide, by decide, by decide +kernel⟩, by decide, by decide⟩ tw_634 tw_635 tw_636 rfl hl.1 (Nat.le_of_ble_eq_true rfl) ⟨by show k + 5 + 0 ≤ 601024; omega, by show n + 2628 + 0 ≤ 7293034; omega⟩ d_LW_law_467 (fun v h2 hp => ?_)
  obtain ⟨rfl, hm, hkM⟩ := hp
  have hx := kp_MD_LB hx hkM
  have fo := kp_oMD hkM fo
  have hyy := I3.1
  refine g_widen (k' := k + 5) (n' := n + 2628) (by show k + 5 + 0 ≤ k + 5; omega) (by show n + 2628 + 0 ≤ n + 2628; omega) ?_
  show G D s0 p l e _ s0 m _ below meth c h2 _ _ _ (F0 m 470 ls [.int (iZ (mY M)), .int (iZ (Y.length))])
  refine g_icmp_eq (tgt := 666) X (by first | exact ⟨by omega, by omega⟩ | exact hRok | exact hRlk | exact hxs _) (by first | exact ⟨by omega, by omega⟩ | exact hRok | exact hRlk | exact hxs _) d_LW_law_470 (by decide) (fun c470 => ?_) (fun c470 => ?_)
  · exact kont h2 ls ⟨A, bs, Y, ys, pn, tb, _, g0, hx, hm, fo, hI.t⟩ (lv_sub hl [0, 1, 2, 3, 4] rfl)
  · exfalso
    omega

set_option maxHeartbeats 4000000 in
set_option maxRecDepth 100000 in
theorem law_1 {D : va_G} {s0 : State} {p : Program} {l : Launch} {e : Env} {m : MethodId} {below : List Frame} {meth : Method} {c : Code} {b L x a o i k n : Nat} {xs : Nat → Int} {h : gH} {ls : Array Slot} (B0 : gB D s0) (hfl : l.flags = flags0) (X : gX D s0 "LayerBudgetsLaw" code 8 ret p s0 m meth c) (hkn : k + 5 ≤ 601024 ∧ n + 2628 ≤ 7293034) (hi : i + 5 ≤ L) (hL : L ≤ 2560) (hxs : ∀ j, i_ok (xs j)) (hX : scrX s0 b L xs) (hS : lawS D h x a o)
    (kont : ∀ (h' : gH) (ls' : Array Slot), lawS D h' x a o → lv_has ls' 8 [(4, .int (iZ i)), (3, .ref o), (2, .ref a), (1, .ref x), (0, .ref b)] → GL D s0 p l e m below meth c b h' (k + 5) (n + 2628) (F0 m 666 ls' []))
    (hl : lv_has ls 8 [(4, .int (iZ i)), (3, .ref o), (2, .ref a), (1, .ref x), (0, .ref b)]) : GL D s0 p l e m below meth c b h k n (F0 m 103 ls []) := by
  obtain ⟨A, bs, Y, ys, pn, tb, M, g0, hx, hm, fo, hI⟩ := hS
  have hpn := hI.pn
  obtain ⟨I1, I2, I3, ⟨I4, I5⟩, I6, I7, I8, I9⟩ := id hI
  obtain ⟨hk1, hk2⟩ := id hkn
  have hAl : A.length ≤ 1024 := hpn.2.2.1
  have hYl : Y.length ≤ 64 := hpn.2.2.2
  have hbo : ∀ i, i < A.length → okB (bs i) := fun i hi => (I1 i hi).1.1
  obtain ⟨bl, yl, fX, -⟩ := id hx
  obtain ⟨p3, p4, p6, p7, p9, p10, p11, p12, p13, p14, f0, f3, f4, f6, f7, f9, f10, f11, f12, f13, f14⟩ := id hm
  refine g_1 (fun w => lv_aload_n X.1 X.2.1 d_LW_law_103 rfl (lv_at hl 3 rfl) w) ?_
  refine g_1 (fun w => lv_aload_n X.1 X.2.1 d_LW_law_104 rfl (lv_at hl 1 rfl) w) ?_
  refine g_callSW (na := 2) X (c_LW_block B0 hfl hx hAl hYl hbo I7 fo) rfl ⟨⟨tw_114, tw_0⟩, ⟨by decide, by decide, by decide +kernel⟩, by decide, by decide⟩ tw_112 tw_113 rfl hl.1 (Nat.le_of_ble_eq_true rfl) ⟨by show k + 5 ≤ 601024; omega, by show n + 1970 ≤ 7293034; omega⟩ d_LW_law_105 (fun v h' hp => ?_)
  rcases hp with ⟨rfl, R, ⟨hlt, rfl, bb, hx⟩, fo, hkO⟩ | ⟨rfl, hbad, rfl⟩
  · have hRok : i_ok (A.length : Int) := ⟨by omega, by omega⟩
    have hRlk : l_ok (A.length : Int) := ⟨by omega, by omega⟩
    have hm := kp_LO_MD hm hkO
    obtain ⟨bl, yl, fX, -⟩ := id hx
    obtain ⟨p3, p4, p6, p7, p9, p10, p11, p12, p13, p14, f0, f3, f4, f6, f7, f9, f10, f11, f12, f13, f14⟩ := id hm
    refine g_widen (k' := k + 5) (n' := n + 2628) (by show k + 5 ≤ k + 5; omega) (by show n + 1970 ≤ n + 2628; omega) ?_
    show G D s0 p l e _ s0 m _ below meth c h' _ _ _ (F0 m 108 ls [.int (iZ (0))])
    refine g_s (fun kk => lv_istore (lv' := [(5, .int (iZ (0))), (4, .int (iZ (i))), (3, .ref o), (2, .ref a), (1, .ref x), (0, .ref b)]) X.1 X.2.1 d_LW_law_108 hl (by decide) rfl kk) (fun ls hl => ?_)
    refine g_1 (fun w => lv_aload_n X.1 X.2.1 d_LW_law_110 rfl (lv_at hl 3 rfl) w) ?_
    refine g_callV (na := 0) X (c_MD_block B0 hm I2 I1) rfl f0 rfl ⟨⟨tw_559, tw_5⟩, ⟨by decide, by decide, by decide +kernel⟩, by decide, by decide⟩ tw_556 tw_557 tw_558 rfl hl.1 (Nat.le_of_ble_eq_true rfl) ⟨by show k + 5 + 0 ≤ 601024; omega, by show n + 2628 + 0 ≤ 7293034; omega⟩ d_LW_law_111 (fun v h8 hp => ?_)
    obtain ⟨t, r, rfl, hkM, hd⟩ := hp
    obtain ⟨rfl, rfl, hm⟩ : t = 0 ∧ r = A.length ∧ isMD D h8 a (0, mN M + 1, mA M, mU M + 1, 0, va_up (aP M) A.length 0, va_up (aB M) A.length (mU M), va_up (aY M) (beg bs A.length) 0, va_up (aG M) (beg bs A.length) 0, aC M, aT M, aL M, aM M, aK M, aX M) := by
      rcases hd with ⟨z1, z2, z3⟩ | ⟨z1, z2, z3, z4⟩
      · exact absurd hlt z1
      · exact ⟨z2, z3, z4⟩
    have hx := kp_MD_LB hx hkM
    have fo := kp_oMD hkM fo
    obtain ⟨bl, yl, fX, -⟩ := id hx
    obtain ⟨p3, p4, p6, p7, p9, p10, p11, p12, p13, p14, f0, f3, f4, f6, f7, f9, f10, f11, f12, f13, f14⟩ := id hm
    refine g_widen (k' := k + 5) (n' := n + 2628) (by show k + 5 + 0 ≤ k + 5; omega) (by show n + 2628 + 0 ≤ n + 2628; omega) ?_
    show G D s0 p l e _ s0 m _ below meth c h8 _ _ _ (F0 m 114 ls [.int (iZ (A.length))])
    refine g_s (fun kk => lv_istore (lv' := [(6, .int (iZ (A.length))), (5, .int (iZ (0))), (4, .int (iZ (i))), (3, .ref o), (2, .ref a), (1, .ref x), (0, .ref b)]) X.1 X.2.1 d_LW_law_114 hl (by decide) rfl kk) (fun ls hl => ?_)
    refine g_1 (fun w => lv_aload_n X.1 X.2.1 d_LW_law_116 rfl (lv_at hl 4 rfl) w) ?_
    refine g_callV (na := 0) X (c_MD_thrown B0 hm) rfl f0 rfl ⟨⟨tw_551, tw_5⟩, ⟨by decide, by decide, by decide +kernel⟩, by decide, by decide⟩ tw_548 tw_549 tw_550 rfl hl.1 (Nat.le_of_ble_eq_true rfl) ⟨by show k + 5 + 0 ≤ 601024; omega, by show n + 2628 + 0 ≤ 7293034; omega⟩ d_LW_law_117 (fun v h9 hp => ?_)
    obtain ⟨rfl, rfl⟩ := hp
    refine g_widen (k' := k + 5) (n' := n + 2628) (by show k + 5 + 0 ≤ k + 5; omega) (by show n + 2628 + 0 ≤ n + 2628; omega) ?_
    show G D s0 p l e _ s0 m _ below meth c h8 _ _ _ (F0 m 120 ls [.int (iZ (0))])
    refine g_1 (fun w => lv_iload X.1 X.2.1 d_LW_law_120 (lv_at hl 1 rfl) w) ?_
    refine g_icmp_eq (tgt := 127) X (by first | exact ⟨by omega, by omega⟩ | exact hRok | exact hRlk | exact hxs _) (by first | exact ⟨by omega, by omega⟩ | exact hRok | exact hRlk | exact hxs _) d_LW_law_122 (by decide) (fun c122 => ?_) (fun c122 => ?_)
    · refine g_1 (fun w => lv_iload X.1 X.2.1 d_LW_law_127 (lv_at hl 1 rfl) w) ?_
      refine g_if_ne (tgt := 144) X (by first | exact ⟨by omega, by omega⟩ | exact hRok | exact hRlk | exact hxs _) d_LW_law_129 (by decide) (fun c129 => ?_) (fun c129 => ?_)
      · exact absurd c129 (by decide)
      · refine g_1 (fun w => lv_aload_n X.1 X.2.1 d_LW_law_132 rfl (lv_at hl 3 rfl) w) ?_
        refine g_1 (fun w => lv_iconst (v := iZ 0) X.1 X.2.1 d_LW_law_133 rfl w) ?_
        refine g_lld X fo (0) (rfl) (by omega) (by omega) d_LW_law_134 ?_
        refine g_tl (congrArg lZ (show ((va_up (g0) (0) (A.length)) 0 : Int) = A.length from va_up_self _ _ _)) ?_
        refine g_1 (fun w => lv_iload X.1 X.2.1 d_LW_law_135 (lv_at hl 0 rfl) w) ?_
        refine g_i2l X (by first | exact ⟨by omega, by omega⟩ | exact hRok | exact hRlk | exact hxs _) d_LW_law_137 ?_
        refine g_lcmp X (by first | exact ⟨by omega, by omega⟩ | exact hRok | exact hRlk | exact hxs _) (by first | exact ⟨by omega, by omega⟩ | exact hRok | exact hRlk | exact hxs _) d_LW_law_138 ?_
        refine g_if_eq (tgt := 144) X (cmpZ_ok _ _) d_LW_law_139 (by decide) (fun c139 => ?_) (fun c139 => ?_)
        · refine g_goto (tgt := 666) X d_LW_law_144 (by decide) ?_
          have hI2 := INV_block hI hlt
          rw [show A.length + 1 = (A ++ [bb]).length by simp] at hI2
          exact kont h8 ls ⟨A ++ [bb], _, [], ys, pn, 0, _, va_up (g0) (0) (A.length), hx, hm, fo, hI2⟩ (lv_sub hl [2, 3, 4, 5, 6] rfl)
        · exact absurd (cmpZ_self _) c139
    · exact absurd c122 (by decide)
  · refine g_widen (k' := k + 5) (n' := n + 2628) (by show k + 5 ≤ k + 5; omega) (by show n + 1970 ≤ n + 2628; omega) ?_
    show G D s0 p l e _ s0 m _ below meth c h _ _ _ (F0 m 108 ls [.int (iZ (1))])
    refine g_s (fun kk => lv_istore (lv' := [(5, .int (iZ (1))), (4, .int (iZ (i))), (3, .ref o), (2, .ref a), (1, .ref x), (0, .ref b)]) X.1 X.2.1 d_LW_law_108 hl (by decide) rfl kk) (fun ls hl => ?_)
    refine g_1 (fun w => lv_aload_n X.1 X.2.1 d_LW_law_110 rfl (lv_at hl 3 rfl) w) ?_
    refine g_callV (na := 0) X (c_MD_block B0 hm I2 I1) rfl f0 rfl ⟨⟨tw_559, tw_5⟩, ⟨by decide, by decide, by decide +kernel⟩, by decide, by decide⟩ tw_556 tw_557 tw_558 rfl hl.1 (Nat.le_of_ble_eq_true rfl) ⟨by show k + 5 + 0 ≤ 601024; omega, by show n + 2628 + 0 ≤ 7293034; omega⟩ d_LW_law_111 (fun v h8 hp => ?_)
    obtain ⟨t, r, rfl, hkM, hd⟩ := hp
    obtain ⟨rfl, hm⟩ : t = 1 ∧ isMD D h8 a (1, M.2) := by
      rcases hd with ⟨z1, z2, z3⟩ | ⟨z1, z2, z3, z4⟩
      · exact ⟨z2, z3⟩
      · exact absurd z1 hbad
    have hx := kp_MD_LB hx hkM
    have fo := kp_oMD hkM fo
    obtain ⟨bl, yl, fX, -⟩ := id hx
    obtain ⟨p3, p4, p6, p7, p9, p10, p11, p12, p13, p14, f0, f3, f4, f6, f7, f9, f10, f11, f12, f13, f14⟩ := id hm
    refine g_widen (k' := k + 5) (n' := n + 2628) (by show k + 5 + 0 ≤ k + 5; omega) (by show n + 2628 + 0 ≤ n + 2628; omega) ?_
    show G D s0 p l e _ s0 m _ below meth c h8 _ _ _ (F0 m 114 ls [.int (iZ (r))])
    refine g_s (fun kk => lv_istore (lv' := [(6, .int (iZ (r))), (5, .int (iZ (1))), (4, .int (iZ (i))), (3, .ref o), (2, .ref a), (1, .ref x), (0, .ref b)]) X.1 X.2.1 d_LW_law_114 hl (by decide) rfl kk) (fun ls hl => ?_)
    refine g_1 (fun w => lv_aload_n X.1 X.2.1 d_LW_law_116 rfl (lv_at hl 4 rfl) w) ?_
    refine g_callV (na := 0) X (c_MD_thrown B0 hm) rfl f0 rfl ⟨⟨tw_551, tw_5⟩, ⟨by decide, by decide, by decide +kernel⟩, by decide, by decide⟩ tw_548 tw_549 tw_550 rfl hl.1 (Nat.le_of_ble_eq_true rfl) ⟨by show k + 5 + 0 ≤ 601024; omega, by show n + 2628 + 0 ≤ 7293034; omega⟩ d_LW_law_117 (fun v h9 hp => ?_)
    obtain ⟨rfl, rfl⟩ := hp
    refine g_widen (k' := k + 5) (n' := n + 2628) (by show k + 5 + 0 ≤ k + 5; omega) (by show n + 2628 + 0 ≤ n + 2628; omega) ?_
    show G D s0 p l e _ s0 m _ below meth c h8 _ _ _ (F0 m 120 ls [.int (iZ (1))])
    refine g_1 (fun w => lv_iload X.1 X.2.1 d_LW_law_120 (lv_at hl 1 rfl) w) ?_
    refine g_icmp_eq (tgt := 127) X (by first | exact ⟨by omega, by omega⟩ | exact hRok | exact hRlk | exact hxs _) (by first | exact ⟨by omega, by omega⟩ | exact hRok | exact hRlk | exact hxs _) d_LW_law_122 (by decide) (fun c122 => ?_) (fun c122 => ?_)
    · refine g_1 (fun w => lv_iload X.1 X.2.1 d_LW_law_127 (lv_at hl 1 rfl) w) ?_
      refine g_if_ne (tgt := 144) X (by first | exact ⟨by omega, by omega⟩ | exact hRok | exact hRlk | exact hxs _) d_LW_law_129 (by decide) (fun c129 => ?_) (fun c129 => ?_)
      · refine g_goto (tgt := 666) X d_LW_law_144 (by decide) ?_
        exact kont h8 ls ⟨A, bs, Y, ys, pn, tb, _, g0, hx, hm, fo, hI.t⟩ (lv_sub hl [2, 3, 4, 5, 6] rfl)
      · exact absurd c129 (by decide)
    · exact absurd c122 (by decide)

set_option maxHeartbeats 4000000 in
set_option maxRecDepth 100000 in
theorem law_2 {D : va_G} {s0 : State} {p : Program} {l : Launch} {e : Env} {m : MethodId} {below : List Frame} {meth : Method} {c : Code} {b L x a o i k n : Nat} {xs : Nat → Int} {h : gH} {ls : Array Slot} (B0 : gB D s0) (hfl : l.flags = flags0) (X : gX D s0 "LayerBudgetsLaw" code 8 ret p s0 m meth c) (hkn : k + 5 ≤ 601024 ∧ n + 2628 ≤ 7293034) (hi : i + 5 ≤ L) (hL : L ≤ 2560) (hxs : ∀ j, i_ok (xs j)) (hX : scrX s0 b L xs) (hS : lawS D h x a o)
    (kont : ∀ (h' : gH) (ls' : Array Slot), lawS D h' x a o → lv_has ls' 8 [(4, .int (iZ i)), (3, .ref o), (2, .ref a), (1, .ref x), (0, .ref b)] → GL D s0 p l e m below meth c b h' (k + 5) (n + 2628) (F0 m 666 ls' []))
    (hl : lv_has ls 8 [(4, .int (iZ i)), (3, .ref o), (2, .ref a), (1, .ref x), (0, .ref b)]) : GL D s0 p l e m below meth c b h k n (F0 m 147 ls []) := by
  obtain ⟨A, bs, Y, ys, pn, tb, M, g0, hx, hm, fo, hI⟩ := hS
  have hpn := hI.pn
  obtain ⟨I1, I2, I3, ⟨I4, I5⟩, I6, I7, I8, I9⟩ := id hI
  obtain ⟨hk1, hk2⟩ := id hkn
  have hAl : A.length ≤ 1024 := hpn.2.2.1
  have hYl : Y.length ≤ 64 := hpn.2.2.2
  have hbo : ∀ i, i < A.length → okB (bs i) := fun i hi => (I1 i hi).1.1
  obtain ⟨bl, yl, fX, -⟩ := id hx
  obtain ⟨p3, p4, p6, p7, p9, p10, p11, p12, p13, p14, f0, f3, f4, f6, f7, f9, f10, f11, f12, f13, f14⟩ := id hm
  refine g_1 (fun w => lv_aload_n X.1 X.2.1 d_LW_law_147 rfl (lv_at hl 3 rfl) w) ?_
  refine g_1 (fun w => lv_aload_n X.1 X.2.1 d_LW_law_148 rfl (lv_at hl 4 rfl) w) ?_
  refine g_1 (fun w => lv_iload X.1 X.2.1 d_LW_law_149 (lv_at hl 0 rfl) w) ?_
  refine g_1 (fun w => lv_iconst (v := iZ 1) X.1 X.2.1 d_LW_law_151 rfl w) ?_
  refine g_iadd X d_LW_law_152 ?_
  refine g_sld X hX (i + 1) (by omega) (by omega) (by omega) d_LW_law_153 ?_
  refine g_1 (fun w => lv_aload_n X.1 X.2.1 d_LW_law_154 rfl (lv_at hl 4 rfl) w) ?_
  refine g_1 (fun w => lv_iload X.1 X.2.1 d_LW_law_155 (lv_at hl 0 rfl) w) ?_
  refine g_1 (fun w => lv_iconst (v := iZ 2) X.1 X.2.1 d_LW_law_157 rfl w) ?_
  refine g_iadd X d_LW_law_158 ?_
  refine g_sld X hX (i + 2) (by omega) (by omega) (by omega) d_LW_law_159 ?_
  refine g_1 (fun w => lv_aload_n X.1 X.2.1 d_LW_law_160 rfl (lv_at hl 4 rfl) w) ?_
  refine g_1 (fun w => lv_iload X.1 X.2.1 d_LW_law_161 (lv_at hl 0 rfl) w) ?_
  refine g_1 (fun w => lv_iconst (v := iZ 3) X.1 X.2.1 d_LW_law_163 rfl w) ?_
  refine g_iadd X d_LW_law_164 ?_
  refine g_sld X hX (i + 3) (by omega) (by omega) (by omega) d_LW_law_165 ?_
  refine g_i2l X (by first | exact ⟨by omega, by omega⟩ | exact hRok | exact hRlk | exact hxs _) d_LW_law_166 ?_
  refine g_1 (fun w => lv_bipush (v := iZ 32) X.1 X.2.1 d_LW_law_167 (by decide) w) ?_
  refine g_1 (fun w => lv_lshl X.1 X.2.1 d_LW_law_169 rfl w) ?_
  refine g_1 (fun w => lv_aload_n X.1 X.2.1 d_LW_law_170 rfl (lv_at hl 4 rfl) w) ?_
  refine g_1 (fun w => lv_iload X.1 X.2.1 d_LW_law_171 (lv_at hl 0 rfl) w) ?_
  refine g_1 (fun w => lv_iconst (v := iZ 4) X.1 X.2.1 d_LW_law_173 rfl w) ?_
  refine g_iadd X d_LW_law_174 ?_
  refine g_sld X hX (i + 4) (by omega) (by omega) (by omega) d_LW_law_175 ?_
  refine g_i2l X (by first | exact ⟨by omega, by omega⟩ | exact hRok | exact hRlk | exact hxs _) d_LW_law_176 ?_
  refine g_1 (fun w => lv_ldc2 X.1 X.2.1 X.2.2.2.2.2.1 (X.w tw_650 rfl) d_LW_law_177 w) ?_
  refine g_tl (show _ = lZ (4294967295) by decide) ?_
  refine g_1 (fun w => lv_land X.1 X.2.1 d_LW_law_180 w) ?_
  refine g_1 (fun w => lv_lor X.1 X.2.1 d_LW_law_181 w) ?_
  refine g_tl (gl_eq (xs (i + 3)) (xs (i + 4))) ?_
  refine g_1 (fun w => lv_aload_n X.1 X.2.1 d_LW_law_182 rfl (lv_at hl 1 rfl) w) ?_
  refine g_callSW (na := 5) X (c_LW_pass B0 hfl hx hAl hYl hbo I7 (hxs _) (hxs _) (gl_ok _ _) ⟨hpn.1, hpn.2.1⟩ (fun b hb hP h0 hr q1 q2 => ⟨rn_ok (I1 b hb) hP h0 hr q1 q2, rn_mo (I1 b hb) (rn_ok (I1 b hb) hP h0 hr q1 q2)⟩) fo) rfl ⟨⟨tw_276, tw_0⟩, ⟨by decide, by decide, by decide +kernel⟩, by decide, by decide⟩ tw_274 tw_275 rfl hl.1 (Nat.le_of_ble_eq_true rfl) ⟨by show k + 1 ≤ 601024; omega, by show n + 6 ≤ 7293034; omega⟩ d_LW_law_183 (fun v h' hp => ?_)
  rcases hp with ⟨rfl, R, ⟨bi, hbi, hbl, hnb, hnf, rfl, hx⟩, fo, hkO⟩ | ⟨rfl, hbad, rfl⟩ | ⟨rfl, hbad, rfl⟩
  · have hP0 := (I1 bi hbl).1.1.1
    have hRok : i_ok ((bP (bs bi) : Int) + 1) := ⟨by omega, by omega⟩
    have hRlk : l_ok ((bP (bs bi) : Int) + 1) := ⟨by omega, by omega⟩
    have hm := kp_LO_MD hm hkO
    obtain ⟨bl, yl, fX, -⟩ := id hx
    obtain ⟨p3, p4, p6, p7, p9, p10, p11, p12, p13, p14, f0, f3, f4, f6, f7, f9, f10, f11, f12, f13, f14⟩ := id hm
    refine g_widen (k' := k + 5) (n' := n + 2628) (by show k + 1 ≤ k + 5; omega) (by show n + 6 ≤ n + 2628; omega) ?_
    show G D s0 p l e _ s0 m _ below meth c h' _ _ _ (F0 m 186 ls [.int (iZ (0))])
    refine g_s (fun kk => lv_istore (lv' := [(5, .int (iZ (0))), (4, .int (iZ (i))), (3, .ref o), (2, .ref a), (1, .ref x), (0, .ref b)]) X.1 X.2.1 d_LW_law_186 hl (by decide) rfl kk) (fun ls hl => ?_)
    refine g_1 (fun w => lv_aload_n X.1 X.2.1 d_LW_law_188 rfl (lv_at hl 3 rfl) w) ?_
    refine g_1 (fun w => lv_aload_n X.1 X.2.1 d_LW_law_189 rfl (lv_at hl 5 rfl) w) ?_
    refine g_1 (fun w => lv_iload X.1 X.2.1 d_LW_law_190 (lv_at hl 1 rfl) w) ?_
    refine g_1 (fun w => lv_iconst (v := iZ 1) X.1 X.2.1 d_LW_law_192 rfl w) ?_
    refine g_iadd X d_LW_law_193 ?_
    refine g_sld X hX (i + 1) (by omega) (by omega) (by omega) d_LW_law_194 ?_
    refine g_1 (fun w => lv_aload_n X.1 X.2.1 d_LW_law_195 rfl (lv_at hl 5 rfl) w) ?_
    refine g_1 (fun w => lv_iload X.1 X.2.1 d_LW_law_196 (lv_at hl 1 rfl) w) ?_
    refine g_1 (fun w => lv_iconst (v := iZ 2) X.1 X.2.1 d_LW_law_198 rfl w) ?_
    refine g_iadd X d_LW_law_199 ?_
    refine g_sld X hX (i + 2) (by omega) (by omega) (by omega) d_LW_law_200 ?_
    refine g_1 (fun w => lv_aload_n X.1 X.2.1 d_LW_law_201 rfl (lv_at hl 5 rfl) w) ?_
    refine g_1 (fun w => lv_iload X.1 X.2.1 d_LW_law_202 (lv_at hl 1 rfl) w) ?_
    refine g_1 (fun w => lv_iconst (v := iZ 3) X.1 X.2.1 d_LW_law_204 rfl w) ?_
    refine g_iadd X d_LW_law_205 ?_
    refine g_sld X hX (i + 3) (by omega) (by omega) (by omega) d_LW_law_206 ?_
    refine g_i2l X (by first | exact ⟨by omega, by omega⟩ | exact hRok | exact hRlk | exact hxs _) d_LW_law_207 ?_
    refine g_1 (fun w => lv_bipush (v := iZ 32) X.1 X.2.1 d_LW_law_208 (by decide) w) ?_
    refine g_1 (fun w => lv_lshl X.1 X.2.1 d_LW_law_210 rfl w) ?_
    refine g_1 (fun w => lv_aload_n X.1 X.2.1 d_LW_law_211 rfl (lv_at hl 5 rfl) w) ?_
    refine g_1 (fun w => lv_iload X.1 X.2.1 d_LW_law_212 (lv_at hl 1 rfl) w) ?_
    refine g_1 (fun w => lv_iconst (v := iZ 4) X.1 X.2.1 d_LW_law_214 rfl w) ?_
    refine g_iadd X d_LW_law_215 ?_
    refine g_sld X hX (i + 4) (by omega) (by omega) (by omega) d_LW_law_216 ?_
    refine g_i2l X (by first | exact ⟨by omega, by omega⟩ | exact hRok | exact hRlk | exact hxs _) d_LW_law_217 ?_
    refine g_1 (fun w => lv_ldc2 X.1 X.2.1 X.2.2.2.2.2.1 (X.w tw_650 rfl) d_LW_law_218 w) ?_
    refine g_tl (show _ = lZ (4294967295) by decide) ?_
    refine g_1 (fun w => lv_land X.1 X.2.1 d_LW_law_221 w) ?_
    refine g_1 (fun w => lv_lor X.1 X.2.1 d_LW_law_222 w) ?_
    refine g_tl (gl_eq (xs (i + 3)) (xs (i + 4))) ?_
    refine g_callV (na := 3) X (c_MD_pass B0 hm I2 I1 I5 (hxs _) (hxs _) (gl_ok _ _)) rfl f0 rfl ⟨⟨tw_567, tw_5⟩, ⟨by decide, by decide, by decide +kernel⟩, by decide, by decide⟩ tw_564 tw_565 tw_566 rfl hl.1 (Nat.le_of_ble_eq_true rfl) ⟨by show k + 5 + 0 ≤ 601024; omega, by show n + 2628 + 0 ≤ 7293034; omega⟩ d_LW_law_223 (fun v h8 hp => ?_)
    obtain ⟨t, r, rfl, hkM, hd⟩ := hp
    obtain ⟨rfl, rfl, M2, hm, hT0, hY0, hA1, hv2⟩ : t = 0 ∧ r = bP (bs bi) + 1 ∧ ∃ M', isMD D h8 a M' ∧ mT M' = 0 ∧ mY M' = 0 ∧ mA M' = mA M + 1 ∧ mV M' A.length (va_up bs bi (grown (bs bi) (xs (i + 2)) (gl (xs (i + 3)) (xs (i + 4))))) := by
      rcases hd with ⟨z1, z2, z3⟩ | ⟨z1, b2, zb, zl, hd⟩
      · exact absurd z1 hnb
      · obtain rfl : b2 = bi := by omega
        rcases hd with ⟨y1, y2, y3⟩ | ⟨y1, y2, y3, y4⟩
        · rw [I4] at y1
          exact absurd y1 hnf
        · exact ⟨y2, y3, y4⟩
    obtain ⟨mt, mr⟩ := M2
    have hT0 : mt = 0 := hT0
    subst hT0
    have hx := kp_MD_LB hx hkM
    have fo := kp_oMD hkM fo
    obtain ⟨bl, yl, fX, -⟩ := id hx
    obtain ⟨p3, p4, p6, p7, p9, p10, p11, p12, p13, p14, f0, f3, f4, f6, f7, f9, f10, f11, f12, f13, f14⟩ := id hm
    refine g_widen (k' := k + 5) (n' := n + 2628) (by show k + 5 + 0 ≤ k + 5; omega) (by show n + 2628 + 0 ≤ n + 2628; omega) ?_
    show G D s0 p l e _ s0 m _ below meth c h8 _ _ _ (F0 m 226 ls [.int (iZ (bP (bs bi) + 1))])
    refine g_s (fun kk => lv_istore (lv' := [(6, .int (iZ (bP (bs bi) + 1))), (5, .int (iZ (0))), (4, .int (iZ (i))), (3, .ref o), (2, .ref a), (1, .ref x), (0, .ref b)]) X.1 X.2.1 d_LW_law_226 hl (by decide) rfl kk) (fun ls hl => ?_)
    refine g_1 (fun w => lv_aload_n X.1 X.2.1 d_LW_law_228 rfl (lv_at hl 4 rfl) w) ?_
    refine g_callV (na := 0) X (c_MD_thrown B0 hm) rfl f0 rfl ⟨⟨tw_551, tw_5⟩, ⟨by decide, by decide, by decide +kernel⟩, by decide, by decide⟩ tw_548 tw_549 tw_550 rfl hl.1 (Nat.le_of_ble_eq_true rfl) ⟨by show k + 5 + 0 ≤ 601024; omega, by show n + 2628 + 0 ≤ 7293034; omega⟩ d_LW_law_229 (fun v h9 hp => ?_)
    obtain ⟨rfl, rfl⟩ := hp
    refine g_widen (k' := k + 5) (n' := n + 2628) (by show k + 5 + 0 ≤ k + 5; omega) (by show n + 2628 + 0 ≤ n + 2628; omega) ?_
    show G D s0 p l e _ s0 m _ below meth c h8 _ _ _ (F0 m 232 ls [.int (iZ (0))])
    refine g_1 (fun w => lv_iload X.1 X.2.1 d_LW_law_232 (lv_at hl 1 rfl) w) ?_
    refine g_icmp_eq (tgt := 239) X (by first | exact ⟨by omega, by omega⟩ | exact hRok | exact hRlk | exact hxs _) (by first | exact ⟨by omega, by omega⟩ | exact hRok | exact hRlk | exact hxs _) d_LW_law_234 (by decide) (fun c234 => ?_) (fun c234 => ?_)
    · refine g_1 (fun w => lv_iload X.1 X.2.1 d_LW_law_239 (lv_at hl 1 rfl) w) ?_
      refine g_if_ne (tgt := 256) X (by first | exact ⟨by omega, by omega⟩ | exact hRok | exact hRlk | exact hxs _) d_LW_law_241 (by decide) (fun c241 => ?_) (fun c241 => ?_)
      · exact absurd c241 (by decide)
      · refine g_1 (fun w => lv_aload_n X.1 X.2.1 d_LW_law_244 rfl (lv_at hl 3 rfl) w) ?_
        refine g_1 (fun w => lv_iconst (v := iZ 0) X.1 X.2.1 d_LW_law_245 rfl w) ?_
        refine g_lld X fo (0) (rfl) (by omega) (by omega) d_LW_law_246 ?_
        refine g_tl (congrArg lZ (show ((va_up (g0) (0) (bP (bs bi) + 1)) 0 : Int) = bP (bs bi) + 1 from va_up_self _ _ _)) ?_
        refine g_1 (fun w => lv_iload X.1 X.2.1 d_LW_law_247 (lv_at hl 0 rfl) w) ?_
        refine g_i2l X (by first | exact ⟨by omega, by omega⟩ | exact hRok | exact hRlk | exact hxs _) d_LW_law_249 ?_
        refine g_lcmp X (by first | exact ⟨by omega, by omega⟩ | exact hRok | exact hRlk | exact hxs _) (by first | exact ⟨by omega, by omega⟩ | exact hRok | exact hRlk | exact hxs _) d_LW_law_250 ?_
        refine g_if_eq (tgt := 256) X (cmpZ_ok _ _) d_LW_law_251 (by decide) (fun c251 => ?_) (fun c251 => ?_)
        · refine g_goto (tgt := 666) X d_LW_law_256 (by decide) ?_
          have hI2 := INV_pass hI hbl (by omega) (by omega) (by omega) (by omega) (by omega) hY0 hA1 hv2
          exact kont h8 ls ⟨A, _, [], ys, pn + 1, 0, _, va_up (g0) (0) (bP (bs bi) + 1), hx, hm, fo, hI2⟩ (lv_sub hl [2, 3, 4, 5, 6] rfl)
        · exact absurd (cmpZ_self _) c251
    · exact absurd c234 (by decide)
  · refine g_widen (k' := k + 5) (n' := n + 2628) (by show k + 1 ≤ k + 5; omega) (by show n + 6 ≤ n + 2628; omega) ?_
    show G D s0 p l e _ s0 m _ below meth c h _ _ _ (F0 m 186 ls [.int (iZ (1))])
    refine g_s (fun kk => lv_istore (lv' := [(5, .int (iZ (1))), (4, .int (iZ (i))), (3, .ref o), (2, .ref a), (1, .ref x), (0, .ref b)]) X.1 X.2.1 d_LW_law_186 hl (by decide) rfl kk) (fun ls hl => ?_)
    refine g_1 (fun w => lv_aload_n X.1 X.2.1 d_LW_law_188 rfl (lv_at hl 3 rfl) w) ?_
    refine g_1 (fun w => lv_aload_n X.1 X.2.1 d_LW_law_189 rfl (lv_at hl 5 rfl) w) ?_
    refine g_1 (fun w => lv_iload X.1 X.2.1 d_LW_law_190 (lv_at hl 1 rfl) w) ?_
    refine g_1 (fun w => lv_iconst (v := iZ 1) X.1 X.2.1 d_LW_law_192 rfl w) ?_
    refine g_iadd X d_LW_law_193 ?_
    refine g_sld X hX (i + 1) (by omega) (by omega) (by omega) d_LW_law_194 ?_
    refine g_1 (fun w => lv_aload_n X.1 X.2.1 d_LW_law_195 rfl (lv_at hl 5 rfl) w) ?_
    refine g_1 (fun w => lv_iload X.1 X.2.1 d_LW_law_196 (lv_at hl 1 rfl) w) ?_
    refine g_1 (fun w => lv_iconst (v := iZ 2) X.1 X.2.1 d_LW_law_198 rfl w) ?_
    refine g_iadd X d_LW_law_199 ?_
    refine g_sld X hX (i + 2) (by omega) (by omega) (by omega) d_LW_law_200 ?_
    refine g_1 (fun w => lv_aload_n X.1 X.2.1 d_LW_law_201 rfl (lv_at hl 5 rfl) w) ?_
    refine g_1 (fun w => lv_iload X.1 X.2.1 d_LW_law_202 (lv_at hl 1 rfl) w) ?_
    refine g_1 (fun w => lv_iconst (v := iZ 3) X.1 X.2.1 d_LW_law_204 rfl w) ?_
    refine g_iadd X d_LW_law_205 ?_
    refine g_sld X hX (i + 3) (by omega) (by omega) (by omega) d_LW_law_206 ?_
    refine g_i2l X (by first | exact ⟨by omega, by omega⟩ | exact hRok | exact hRlk | exact hxs _) d_LW_law_207 ?_
    refine g_1 (fun w => lv_bipush (v := iZ 32) X.1 X.2.1 d_LW_law_208 (by decide) w) ?_
    refine g_1 (fun w => lv_lshl X.1 X.2.1 d_LW_law_210 rfl w) ?_
    refine g_1 (fun w => lv_aload_n X.1 X.2.1 d_LW_law_211 rfl (lv_at hl 5 rfl) w) ?_
    refine g_1 (fun w => lv_iload X.1 X.2.1 d_LW_law_212 (lv_at hl 1 rfl) w) ?_
    refine g_1 (fun w => lv_iconst (v := iZ 4) X.1 X.2.1 d_LW_law_214 rfl w) ?_
    refine g_iadd X d_LW_law_215 ?_
    refine g_sld X hX (i + 4) (by omega) (by omega) (by omega) d_LW_law_216 ?_
    refine g_i2l X (by first | exact ⟨by omega, by omega⟩ | exact hRok | exact hRlk | exact hxs _) d_LW_law_217 ?_
    refine g_1 (fun w => lv_ldc2 X.1 X.2.1 X.2.2.2.2.2.1 (X.w tw_650 rfl) d_LW_law_218 w) ?_
    refine g_tl (show _ = lZ (4294967295) by decide) ?_
    refine g_1 (fun w => lv_land X.1 X.2.1 d_LW_law_221 w) ?_
    refine g_1 (fun w => lv_lor X.1 X.2.1 d_LW_law_222 w) ?_
    refine g_tl (gl_eq (xs (i + 3)) (xs (i + 4))) ?_
    refine g_callV (na := 3) X (c_MD_pass B0 hm I2 I1 I5 (hxs _) (hxs _) (gl_ok _ _)) rfl f0 rfl ⟨⟨tw_567, tw_5⟩, ⟨by decide, by decide, by decide +kernel⟩, by decide, by decide⟩ tw_564 tw_565 tw_566 rfl hl.1 (Nat.le_of_ble_eq_true rfl) ⟨by show k + 5 + 0 ≤ 601024; omega, by show n + 2628 + 0 ≤ 7293034; omega⟩ d_LW_law_223 (fun v h8 hp => ?_)
    obtain ⟨t, r, rfl, hkM, hd⟩ := hp
    obtain ⟨rfl, hm⟩ : t = 1 ∧ isMD D h8 a (1, M.2) := by
      rcases hd with ⟨z1, z2, z3⟩ | ⟨z1, b2, zb, zl, hd⟩
      · exact ⟨z2, z3⟩
      · exact absurd hbad z1
    have hx := kp_MD_LB hx hkM
    have fo := kp_oMD hkM fo
    obtain ⟨bl, yl, fX, -⟩ := id hx
    obtain ⟨p3, p4, p6, p7, p9, p10, p11, p12, p13, p14, f0, f3, f4, f6, f7, f9, f10, f11, f12, f13, f14⟩ := id hm
    refine g_widen (k' := k + 5) (n' := n + 2628) (by show k + 5 + 0 ≤ k + 5; omega) (by show n + 2628 + 0 ≤ n + 2628; omega) ?_
    show G D s0 p l e _ s0 m _ below meth c h8 _ _ _ (F0 m 226 ls [.int (iZ (r))])
    refine g_s (fun kk => lv_istore (lv' := [(6, .int (iZ (r))), (5, .int (iZ (1))), (4, .int (iZ (i))), (3, .ref o), (2, .ref a), (1, .ref x), (0, .ref b)]) X.1 X.2.1 d_LW_law_226 hl (by decide) rfl kk) (fun ls hl => ?_)
    refine g_1 (fun w => lv_aload_n X.1 X.2.1 d_LW_law_228 rfl (lv_at hl 4 rfl) w) ?_
    refine g_callV (na := 0) X (c_MD_thrown B0 hm) rfl f0 rfl ⟨⟨tw_551, tw_5⟩, ⟨by decide, by decide, by decide +kernel⟩, by decide, by decide⟩ tw_548 tw_549 tw_550 rfl hl.1 (Nat.le_of_ble_eq_true rfl) ⟨by show k + 5 + 0 ≤ 601024; omega, by show n + 2628 + 0 ≤ 7293034; omega⟩ d_LW_law_229 (fun v h9 hp => ?_)
    obtain ⟨rfl, rfl⟩ := hp
    refine g_widen (k' := k + 5) (n' := n + 2628) (by show k + 5 + 0 ≤ k + 5; omega) (by show n + 2628 + 0 ≤ n + 2628; omega) ?_
    show G D s0 p l e _ s0 m _ below meth c h8 _ _ _ (F0 m 232 ls [.int (iZ (1))])
    refine g_1 (fun w => lv_iload X.1 X.2.1 d_LW_law_232 (lv_at hl 1 rfl) w) ?_
    refine g_icmp_eq (tgt := 239) X (by first | exact ⟨by omega, by omega⟩ | exact hRok | exact hRlk | exact hxs _) (by first | exact ⟨by omega, by omega⟩ | exact hRok | exact hRlk | exact hxs _) d_LW_law_234 (by decide) (fun c234 => ?_) (fun c234 => ?_)
    · refine g_1 (fun w => lv_iload X.1 X.2.1 d_LW_law_239 (lv_at hl 1 rfl) w) ?_
      refine g_if_ne (tgt := 256) X (by first | exact ⟨by omega, by omega⟩ | exact hRok | exact hRlk | exact hxs _) d_LW_law_241 (by decide) (fun c241 => ?_) (fun c241 => ?_)
      · refine g_goto (tgt := 666) X d_LW_law_256 (by decide) ?_
        exact kont h8 ls ⟨A, bs, Y, ys, pn, tb, _, g0, hx, hm, fo, hI.t⟩ (lv_sub hl [2, 3, 4, 5, 6] rfl)
      · exact absurd c241 (by decide)
    · exact absurd c234 (by decide)
  · refine g_widen (k' := k + 5) (n' := n + 2628) (by show k + 1 ≤ k + 5; omega) (by show n + 6 ≤ n + 2628; omega) ?_
    show G D s0 p l e _ s0 m _ below meth c h _ _ _ (F0 m 186 ls [.int (iZ (2))])
    refine g_s (fun kk => lv_istore (lv' := [(5, .int (iZ (2))), (4, .int (iZ (i))), (3, .ref o), (2, .ref a), (1, .ref x), (0, .ref b)]) X.1 X.2.1 d_LW_law_186 hl (by decide) rfl kk) (fun ls hl => ?_)
    refine g_1 (fun w => lv_aload_n X.1 X.2.1 d_LW_law_188 rfl (lv_at hl 3 rfl) w) ?_
    refine g_1 (fun w => lv_aload_n X.1 X.2.1 d_LW_law_189 rfl (lv_at hl 5 rfl) w) ?_
    refine g_1 (fun w => lv_iload X.1 X.2.1 d_LW_law_190 (lv_at hl 1 rfl) w) ?_
    refine g_1 (fun w => lv_iconst (v := iZ 1) X.1 X.2.1 d_LW_law_192 rfl w) ?_
    refine g_iadd X d_LW_law_193 ?_
    refine g_sld X hX (i + 1) (by omega) (by omega) (by omega) d_LW_law_194 ?_
    refine g_1 (fun w => lv_aload_n X.1 X.2.1 d_LW_law_195 rfl (lv_at hl 5 rfl) w) ?_
    refine g_1 (fun w => lv_iload X.1 X.2.1 d_LW_law_196 (lv_at hl 1 rfl) w) ?_
    refine g_1 (fun w => lv_iconst (v := iZ 2) X.1 X.2.1 d_LW_law_198 rfl w) ?_
    refine g_iadd X d_LW_law_199 ?_
    refine g_sld X hX (i + 2) (by omega) (by omega) (by omega) d_LW_law_200 ?_
    refine g_1 (fun w => lv_aload_n X.1 X.2.1 d_LW_law_201 rfl (lv_at hl 5 rfl) w) ?_
    refine g_1 (fun w => lv_iload X.1 X.2.1 d_LW_law_202 (lv_at hl 1 rfl) w) ?_
    refine g_1 (fun w => lv_iconst (v := iZ 3) X.1 X.2.1 d_LW_law_204 rfl w) ?_
    refine g_iadd X d_LW_law_205 ?_
    refine g_sld X hX (i + 3) (by omega) (by omega) (by omega) d_LW_law_206 ?_
    refine g_i2l X (by first | exact ⟨by omega, by omega⟩ | exact hRok | exact hRlk | exact hxs _) d_LW_law_207 ?_
    refine g_1 (fun w => lv_bipush (v := iZ 32) X.1 X.2.1 d_LW_law_208 (by decide) w) ?_
    refine g_1 (fun w => lv_lshl X.1 X.2.1 d_LW_law_210 rfl w) ?_
    refine g_1 (fun w => lv_aload_n X.1 X.2.1 d_LW_law_211 rfl (lv_at hl 5 rfl) w) ?_
    refine g_1 (fun w => lv_iload X.1 X.2.1 d_LW_law_212 (lv_at hl 1 rfl) w) ?_
    refine g_1 (fun w => lv_iconst (v := iZ 4) X.1 X.2.1 d_LW_law_214 rfl w) ?_
    refine g_iadd X d_LW_law_215 ?_
    refine g_sld X hX (i + 4) (by omega) (by omega) (by omega) d_LW_law_216 ?_
    refine g_i2l X (by first | exact ⟨by omega, by omega⟩ | exact hRok | exact hRlk | exact hxs _) d_LW_law_217 ?_
    refine g_1 (fun w => lv_ldc2 X.1 X.2.1 X.2.2.2.2.2.1 (X.w tw_650 rfl) d_LW_law_218 w) ?_
    refine g_tl (show _ = lZ (4294967295) by decide) ?_
    refine g_1 (fun w => lv_land X.1 X.2.1 d_LW_law_221 w) ?_
    refine g_1 (fun w => lv_lor X.1 X.2.1 d_LW_law_222 w) ?_
    refine g_tl (gl_eq (xs (i + 3)) (xs (i + 4))) ?_
    refine g_callV (na := 3) X (c_MD_pass B0 hm I2 I1 I5 (hxs _) (hxs _) (gl_ok _ _)) rfl f0 rfl ⟨⟨tw_567, tw_5⟩, ⟨by decide, by decide, by decide +kernel⟩, by decide, by decide⟩ tw_564 tw_565 tw_566 rfl hl.1 (Nat.le_of_ble_eq_true rfl) ⟨by show k + 5 + 0 ≤ 601024; omega, by show n + 2628 + 0 ≤ 7293034; omega⟩ d_LW_law_223 (fun v h8 hp => ?_)
    obtain ⟨t, r, rfl, hkM, hd⟩ := hp
    obtain ⟨rfl, hm⟩ : t = 2 ∧ isMD D h8 a (2, M.2) := by
      obtain ⟨q1, q2, q3, q4, q5⟩ := hbad
      rcases hd with ⟨z1, z2, z3⟩ | ⟨z1, b2, zb, zl, hd⟩
      · exact absurd z1 q1
      · obtain rfl : b2 = q2 := by omega
        rcases hd with ⟨y1, y2, y3⟩ | ⟨y1, y2, y3, y4⟩
        · exact ⟨y2, y3⟩
        · rw [I4] at y1
          exact absurd q5 y1
    have hx := kp_MD_LB hx hkM
    have fo := kp_oMD hkM fo
    obtain ⟨bl, yl, fX, -⟩ := id hx
    obtain ⟨p3, p4, p6, p7, p9, p10, p11, p12, p13, p14, f0, f3, f4, f6, f7, f9, f10, f11, f12, f13, f14⟩ := id hm
    refine g_widen (k' := k + 5) (n' := n + 2628) (by show k + 5 + 0 ≤ k + 5; omega) (by show n + 2628 + 0 ≤ n + 2628; omega) ?_
    show G D s0 p l e _ s0 m _ below meth c h8 _ _ _ (F0 m 226 ls [.int (iZ (r))])
    refine g_s (fun kk => lv_istore (lv' := [(6, .int (iZ (r))), (5, .int (iZ (2))), (4, .int (iZ (i))), (3, .ref o), (2, .ref a), (1, .ref x), (0, .ref b)]) X.1 X.2.1 d_LW_law_226 hl (by decide) rfl kk) (fun ls hl => ?_)
    refine g_1 (fun w => lv_aload_n X.1 X.2.1 d_LW_law_228 rfl (lv_at hl 4 rfl) w) ?_
    refine g_callV (na := 0) X (c_MD_thrown B0 hm) rfl f0 rfl ⟨⟨tw_551, tw_5⟩, ⟨by decide, by decide, by decide +kernel⟩, by decide, by decide⟩ tw_548 tw_549 tw_550 rfl hl.1 (Nat.le_of_ble_eq_true rfl) ⟨by show k + 5 + 0 ≤ 601024; omega, by show n + 2628 + 0 ≤ 7293034; omega⟩ d_LW_law_229 (fun v h9 hp => ?_)
    obtain ⟨rfl, rfl⟩ := hp
    refine g_widen (k' := k + 5) (n' := n + 2628) (by show k + 5 + 0 ≤ k + 5; omega) (by show n + 2628 + 0 ≤ n + 2628; omega) ?_
    show G D s0 p l e _ s0 m _ below meth c h8 _ _ _ (F0 m 232 ls [.int (iZ (2))])
    refine g_1 (fun w => lv_iload X.1 X.2.1 d_LW_law_232 (lv_at hl 1 rfl) w) ?_
    refine g_icmp_eq (tgt := 239) X (by first | exact ⟨by omega, by omega⟩ | exact hRok | exact hRlk | exact hxs _) (by first | exact ⟨by omega, by omega⟩ | exact hRok | exact hRlk | exact hxs _) d_LW_law_234 (by decide) (fun c234 => ?_) (fun c234 => ?_)
    · refine g_1 (fun w => lv_iload X.1 X.2.1 d_LW_law_239 (lv_at hl 1 rfl) w) ?_
      refine g_if_ne (tgt := 256) X (by first | exact ⟨by omega, by omega⟩ | exact hRok | exact hRlk | exact hxs _) d_LW_law_241 (by decide) (fun c241 => ?_) (fun c241 => ?_)
      · refine g_goto (tgt := 666) X d_LW_law_256 (by decide) ?_
        exact kont h8 ls ⟨A, bs, Y, ys, pn, tb, _, g0, hx, hm, fo, hI.t⟩ (lv_sub hl [2, 3, 4, 5, 6] rfl)
      · exact absurd c241 (by decide)
    · exact absurd c234 (by decide)

set_option maxHeartbeats 4000000 in
set_option maxRecDepth 100000 in
theorem law_3 {D : va_G} {s0 : State} {p : Program} {l : Launch} {e : Env} {m : MethodId} {below : List Frame} {meth : Method} {c : Code} {b L x a o i k n : Nat} {xs : Nat → Int} {h : gH} {ls : Array Slot} (B0 : gB D s0) (hfl : l.flags = flags0) (X : gX D s0 "LayerBudgetsLaw" code 8 ret p s0 m meth c) (hkn : k + 5 ≤ 601024 ∧ n + 2628 ≤ 7293034) (hi : i + 5 ≤ L) (hL : L ≤ 2560) (hxs : ∀ j, i_ok (xs j)) (hX : scrX s0 b L xs) (hS : lawS D h x a o)
    (kont : ∀ (h' : gH) (ls' : Array Slot), lawS D h' x a o → lv_has ls' 8 [(4, .int (iZ i)), (3, .ref o), (2, .ref a), (1, .ref x), (0, .ref b)] → GL D s0 p l e m below meth c b h' (k + 5) (n + 2628) (F0 m 666 ls' []))
    (hl : lv_has ls 8 [(4, .int (iZ i)), (3, .ref o), (2, .ref a), (1, .ref x), (0, .ref b)]) : GL D s0 p l e m below meth c b h k n (F0 m 259 ls []) := by
  obtain ⟨A, bs, Y, ys, pn, tb, M, g0, hx, hm, fo, hI⟩ := hS
  have hpn := hI.pn
  obtain ⟨I1, I2, I3, ⟨I4, I5⟩, I6, I7, I8, I9⟩ := id hI
  obtain ⟨hk1, hk2⟩ := id hkn
  have hAl : A.length ≤ 1024 := hpn.2.2.1
  have hYl : Y.length ≤ 64 := hpn.2.2.2
  have hbo : ∀ i, i < A.length → okB (bs i) := fun i hi => (I1 i hi).1.1
  obtain ⟨bl, yl, fX, -⟩ := id hx
  obtain ⟨p3, p4, p6, p7, p9, p10, p11, p12, p13, p14, f0, f3, f4, f6, f7, f9, f10, f11, f12, f13, f14⟩ := id hm
  refine g_1 (fun w => lv_aload_n X.1 X.2.1 d_LW_law_259 rfl (lv_at hl 3 rfl) w) ?_
  refine g_1 (fun w => lv_aload_n X.1 X.2.1 d_LW_law_260 rfl (lv_at hl 4 rfl) w) ?_
  refine g_1 (fun w => lv_iload X.1 X.2.1 d_LW_law_261 (lv_at hl 0 rfl) w) ?_
  refine g_1 (fun w => lv_iconst (v := iZ 1) X.1 X.2.1 d_LW_law_263 rfl w) ?_
  refine g_iadd X d_LW_law_264 ?_
  refine g_sld X hX (i + 1) (by omega) (by omega) (by omega) d_LW_law_265 ?_
  refine g_1 (fun w => lv_aload_n X.1 X.2.1 d_LW_law_266 rfl (lv_at hl 4 rfl) w) ?_
  refine g_1 (fun w => lv_iload X.1 X.2.1 d_LW_law_267 (lv_at hl 0 rfl) w) ?_
  refine g_1 (fun w => lv_iconst (v := iZ 2) X.1 X.2.1 d_LW_law_269 rfl w) ?_
  refine g_iadd X d_LW_law_270 ?_
  refine g_sld X hX (i + 2) (by omega) (by omega) (by omega) d_LW_law_271 ?_
  refine g_1 (fun w => lv_aload_n X.1 X.2.1 d_LW_law_272 rfl (lv_at hl 4 rfl) w) ?_
  refine g_1 (fun w => lv_iload X.1 X.2.1 d_LW_law_273 (lv_at hl 0 rfl) w) ?_
  refine g_1 (fun w => lv_iconst (v := iZ 3) X.1 X.2.1 d_LW_law_275 rfl w) ?_
  refine g_iadd X d_LW_law_276 ?_
  refine g_sld X hX (i + 3) (by omega) (by omega) (by omega) d_LW_law_277 ?_
  refine g_1 (fun w => lv_aload_n X.1 X.2.1 d_LW_law_278 rfl (lv_at hl 1 rfl) w) ?_
  refine g_callSW (na := 5) X (c_LW_step B0 hfl hx hAl hYl hbo (hxs _) (hxs _) (hxs _) fo) rfl ⟨⟨tw_340, tw_0⟩, ⟨by decide, by decide, by decide +kernel⟩, by decide, by decide⟩ tw_338 tw_339 rfl hl.1 (Nat.le_of_ble_eq_true rfl) ⟨by show k + 1 ≤ 601024; omega, by show n + 6 ≤ 7293034; omega⟩ d_LW_law_279 (fun v h' hp => ?_)
  rcases hp with ⟨rfl, R, ⟨⟨bi, hbi, hbl, hR2⟩, hx⟩, fo, hkO⟩ | ⟨rfl, hbad, rfl⟩ | ⟨rfl, hbad, rfl⟩
  · have hRok : i_ok R := by
      obtain ⟨k1, k2, k3, k4, k5, k6, k7, k8⟩ := hbo bi hbl
      rcases hR2 with ⟨e1, e2⟩ | ⟨e1, e2, k, e3, e4, e5⟩
      · rw [e2]; exact ⟨by omega, by omega⟩
      · rw [e5]
        have q1 := k5 (k + 1)
        have q2 := k6 (bC (bs bi) (k + 1))
        have q3 := k6 (bC (bs bi) k)
        split
        · exact ⟨by omega, by omega⟩
        · exact ⟨by omega, by omega⟩
    have hRlk : l_ok R := by obtain ⟨q1, q2⟩ := hRok; exact ⟨by omega, by omega⟩
    have hm := kp_LO_MD hm hkO
    obtain ⟨bl, yl, fX, -⟩ := id hx
    obtain ⟨p3, p4, p6, p7, p9, p10, p11, p12, p13, p14, f0, f3, f4, f6, f7, f9, f10, f11, f12, f13, f14⟩ := id hm
    refine g_widen (k' := k + 5) (n' := n + 2628) (by show k + 1 ≤ k + 5; omega) (by show n + 6 ≤ n + 2628; omega) ?_
    show G D s0 p l e _ s0 m _ below meth c h' _ _ _ (F0 m 282 ls [.int (iZ (0))])
    refine g_s (fun kk => lv_istore (lv' := [(5, .int (iZ (0))), (4, .int (iZ (i))), (3, .ref o), (2, .ref a), (1, .ref x), (0, .ref b)]) X.1 X.2.1 d_LW_law_282 hl (by decide) rfl kk) (fun ls hl => ?_)
    refine g_1 (fun w => lv_aload_n X.1 X.2.1 d_LW_law_284 rfl (lv_at hl 3 rfl) w) ?_
    refine g_1 (fun w => lv_aload_n X.1 X.2.1 d_LW_law_285 rfl (lv_at hl 5 rfl) w) ?_
    refine g_1 (fun w => lv_iload X.1 X.2.1 d_LW_law_286 (lv_at hl 1 rfl) w) ?_
    refine g_1 (fun w => lv_iconst (v := iZ 1) X.1 X.2.1 d_LW_law_288 rfl w) ?_
    refine g_iadd X d_LW_law_289 ?_
    refine g_sld X hX (i + 1) (by omega) (by omega) (by omega) d_LW_law_290 ?_
    refine g_1 (fun w => lv_aload_n X.1 X.2.1 d_LW_law_291 rfl (lv_at hl 5 rfl) w) ?_
    refine g_1 (fun w => lv_iload X.1 X.2.1 d_LW_law_292 (lv_at hl 1 rfl) w) ?_
    refine g_1 (fun w => lv_iconst (v := iZ 2) X.1 X.2.1 d_LW_law_294 rfl w) ?_
    refine g_iadd X d_LW_law_295 ?_
    refine g_sld X hX (i + 2) (by omega) (by omega) (by omega) d_LW_law_296 ?_
    refine g_1 (fun w => lv_aload_n X.1 X.2.1 d_LW_law_297 rfl (lv_at hl 5 rfl) w) ?_
    refine g_1 (fun w => lv_iload X.1 X.2.1 d_LW_law_298 (lv_at hl 1 rfl) w) ?_
    refine g_1 (fun w => lv_iconst (v := iZ 3) X.1 X.2.1 d_LW_law_300 rfl w) ?_
    refine g_iadd X d_LW_law_301 ?_
    refine g_sld X hX (i + 3) (by omega) (by omega) (by omega) d_LW_law_302 ?_
    refine g_callV (na := 3) X (c_MD_step B0 hm I2 I1 (hxs _) (hxs _) (hxs _)) rfl f0 rfl ⟨⟨tw_577, tw_5⟩, ⟨by decide, by decide, by decide +kernel⟩, by decide, by decide⟩ tw_574 tw_575 tw_576 rfl hl.1 (Nat.le_of_ble_eq_true rfl) ⟨by show k + 5 + 0 ≤ 601024; omega, by show n + 2628 + 0 ≤ 7293034; omega⟩ d_LW_law_303 (fun v h8 hp => ?_)
    obtain ⟨t, r, rfl, hm8, hkM, hd⟩ := hp
    obtain ⟨rfl, hr9⟩ : t = 0 ∧ r = R := by
      rcases hd with ⟨z1, z2⟩ | ⟨z1, b2, zb, zl, hd⟩
      · exfalso
        rcases hR2 with ⟨e1, e2⟩ | ⟨e1, e2, k, e3, e4, e5⟩ <;> omega
      · obtain rfl : b2 = bi := by omega
        rcases hd with ⟨y1, y2, y3⟩ | ⟨y1, y2, y3⟩ | ⟨y1, y2, k, y3, y4, y5⟩
        · rcases hR2 with ⟨e1, e2⟩ | ⟨e1, e2, k, e3, e4, e5⟩
          · exact ⟨y2, y3.trans e2.symm⟩
          · exact absurd y1 e1
        · exfalso
          rcases hR2 with ⟨e1, e2⟩ | ⟨e1, e2, k, e3, e4, e5⟩ <;> omega
        · rcases hR2 with ⟨e1, e2⟩ | ⟨e1, e2, k2, e3, e4, e5⟩
          · exact absurd e1 y1
          · obtain rfl : k2 = k := by omega
            exact ⟨y2, y5.trans e5.symm⟩
    obtain rfl := hr9.symm
    have hm := hm8
    have hx := kp_MD_LB hx hkM
    have fo := kp_oMD hkM fo
    obtain ⟨bl, yl, fX, -⟩ := id hx
    obtain ⟨p3, p4, p6, p7, p9, p10, p11, p12, p13, p14, f0, f3, f4, f6, f7, f9, f10, f11, f12, f13, f14⟩ := id hm
    refine g_widen (k' := k + 5) (n' := n + 2628) (by show k + 5 + 0 ≤ k + 5; omega) (by show n + 2628 + 0 ≤ n + 2628; omega) ?_
    show G D s0 p l e _ s0 m _ below meth c h8 _ _ _ (F0 m 306 ls [.int (iZ (R))])
    refine g_s (fun kk => lv_istore (lv' := [(6, .int (iZ (R))), (5, .int (iZ (0))), (4, .int (iZ (i))), (3, .ref o), (2, .ref a), (1, .ref x), (0, .ref b)]) X.1 X.2.1 d_LW_law_306 hl (by decide) rfl kk) (fun ls hl => ?_)
    refine g_1 (fun w => lv_aload_n X.1 X.2.1 d_LW_law_308 rfl (lv_at hl 4 rfl) w) ?_
    refine g_callV (na := 0) X (c_MD_thrown B0 hm) rfl f0 rfl ⟨⟨tw_551, tw_5⟩, ⟨by decide, by decide, by decide +kernel⟩, by decide, by decide⟩ tw_548 tw_549 tw_550 rfl hl.1 (Nat.le_of_ble_eq_true rfl) ⟨by show k + 5 + 0 ≤ 601024; omega, by show n + 2628 + 0 ≤ 7293034; omega⟩ d_LW_law_309 (fun v h9 hp => ?_)
    obtain ⟨rfl, rfl⟩ := hp
    refine g_widen (k' := k + 5) (n' := n + 2628) (by show k + 5 + 0 ≤ k + 5; omega) (by show n + 2628 + 0 ≤ n + 2628; omega) ?_
    show G D s0 p l e _ s0 m _ below meth c h8 _ _ _ (F0 m 312 ls [.int (iZ (0))])
    refine g_1 (fun w => lv_iload X.1 X.2.1 d_LW_law_312 (lv_at hl 1 rfl) w) ?_
    refine g_icmp_eq (tgt := 319) X (by first | exact ⟨by omega, by omega⟩ | exact hRok | exact hRlk | exact hxs _) (by first | exact ⟨by omega, by omega⟩ | exact hRok | exact hRlk | exact hxs _) d_LW_law_314 (by decide) (fun c314 => ?_) (fun c314 => ?_)
    · refine g_1 (fun w => lv_iload X.1 X.2.1 d_LW_law_319 (lv_at hl 1 rfl) w) ?_
      refine g_if_ne (tgt := 336) X (by first | exact ⟨by omega, by omega⟩ | exact hRok | exact hRlk | exact hxs _) d_LW_law_321 (by decide) (fun c321 => ?_) (fun c321 => ?_)
      · exact absurd c321 (by decide)
      · refine g_1 (fun w => lv_aload_n X.1 X.2.1 d_LW_law_324 rfl (lv_at hl 3 rfl) w) ?_
        refine g_1 (fun w => lv_iconst (v := iZ 0) X.1 X.2.1 d_LW_law_325 rfl w) ?_
        refine g_lld X fo (0) (rfl) (by omega) (by omega) d_LW_law_326 ?_
        refine g_tl (congrArg lZ (show ((va_up (g0) (0) (R)) 0 : Int) = R from va_up_self _ _ _)) ?_
        refine g_1 (fun w => lv_iload X.1 X.2.1 d_LW_law_327 (lv_at hl 0 rfl) w) ?_
        refine g_i2l X (by first | exact ⟨by omega, by omega⟩ | exact hRok | exact hRlk | exact hxs _) d_LW_law_329 ?_
        refine g_lcmp X (by first | exact ⟨by omega, by omega⟩ | exact hRok | exact hRlk | exact hxs _) (by first | exact ⟨by omega, by omega⟩ | exact hRok | exact hRlk | exact hxs _) d_LW_law_330 ?_
        refine g_if_eq (tgt := 336) X (cmpZ_ok _ _) d_LW_law_331 (by decide) (fun c331 => ?_) (fun c331 => ?_)
        · refine g_goto (tgt := 666) X d_LW_law_336 (by decide) ?_
          exact kont h8 ls ⟨A, bs, Y, ys, pn, tb, _, va_up (g0) (0) (R), hx, hm, fo, hI.t⟩ (lv_sub hl [2, 3, 4, 5, 6] rfl)
        · exact absurd (cmpZ_self _) c331
    · exact absurd c314 (by decide)
  · refine g_widen (k' := k + 5) (n' := n + 2628) (by show k + 1 ≤ k + 5; omega) (by show n + 6 ≤ n + 2628; omega) ?_
    show G D s0 p l e _ s0 m _ below meth c h _ _ _ (F0 m 282 ls [.int (iZ (1))])
    refine g_s (fun kk => lv_istore (lv' := [(5, .int (iZ (1))), (4, .int (iZ (i))), (3, .ref o), (2, .ref a), (1, .ref x), (0, .ref b)]) X.1 X.2.1 d_LW_law_282 hl (by decide) rfl kk) (fun ls hl => ?_)
    refine g_1 (fun w => lv_aload_n X.1 X.2.1 d_LW_law_284 rfl (lv_at hl 3 rfl) w) ?_
    refine g_1 (fun w => lv_aload_n X.1 X.2.1 d_LW_law_285 rfl (lv_at hl 5 rfl) w) ?_
    refine g_1 (fun w => lv_iload X.1 X.2.1 d_LW_law_286 (lv_at hl 1 rfl) w) ?_
    refine g_1 (fun w => lv_iconst (v := iZ 1) X.1 X.2.1 d_LW_law_288 rfl w) ?_
    refine g_iadd X d_LW_law_289 ?_
    refine g_sld X hX (i + 1) (by omega) (by omega) (by omega) d_LW_law_290 ?_
    refine g_1 (fun w => lv_aload_n X.1 X.2.1 d_LW_law_291 rfl (lv_at hl 5 rfl) w) ?_
    refine g_1 (fun w => lv_iload X.1 X.2.1 d_LW_law_292 (lv_at hl 1 rfl) w) ?_
    refine g_1 (fun w => lv_iconst (v := iZ 2) X.1 X.2.1 d_LW_law_294 rfl w) ?_
    refine g_iadd X d_LW_law_295 ?_
    refine g_sld X hX (i + 2) (by omega) (by omega) (by omega) d_LW_law_296 ?_
    refine g_1 (fun w => lv_aload_n X.1 X.2.1 d_LW_law_297 rfl (lv_at hl 5 rfl) w) ?_
    refine g_1 (fun w => lv_iload X.1 X.2.1 d_LW_law_298 (lv_at hl 1 rfl) w) ?_
    refine g_1 (fun w => lv_iconst (v := iZ 3) X.1 X.2.1 d_LW_law_300 rfl w) ?_
    refine g_iadd X d_LW_law_301 ?_
    refine g_sld X hX (i + 3) (by omega) (by omega) (by omega) d_LW_law_302 ?_
    refine g_callV (na := 3) X (c_MD_step B0 hm I2 I1 (hxs _) (hxs _) (hxs _)) rfl f0 rfl ⟨⟨tw_577, tw_5⟩, ⟨by decide, by decide, by decide +kernel⟩, by decide, by decide⟩ tw_574 tw_575 tw_576 rfl hl.1 (Nat.le_of_ble_eq_true rfl) ⟨by show k + 5 + 0 ≤ 601024; omega, by show n + 2628 + 0 ≤ 7293034; omega⟩ d_LW_law_303 (fun v h8 hp => ?_)
    obtain ⟨t, r, rfl, hm8, hkM, hd⟩ := hp
    obtain rfl : t = 1 := by
      rcases hd with ⟨z1, z2⟩ | ⟨z1, b2, zb, zl, hd⟩
      · exact z2
      · exact absurd hbad z1
    have hm := hm8
    have hx := kp_MD_LB hx hkM
    have fo := kp_oMD hkM fo
    obtain ⟨bl, yl, fX, -⟩ := id hx
    obtain ⟨p3, p4, p6, p7, p9, p10, p11, p12, p13, p14, f0, f3, f4, f6, f7, f9, f10, f11, f12, f13, f14⟩ := id hm
    refine g_widen (k' := k + 5) (n' := n + 2628) (by show k + 5 + 0 ≤ k + 5; omega) (by show n + 2628 + 0 ≤ n + 2628; omega) ?_
    show G D s0 p l e _ s0 m _ below meth c h8 _ _ _ (F0 m 306 ls [.int (iZ (r))])
    refine g_s (fun kk => lv_istore (lv' := [(6, .int (iZ (r))), (5, .int (iZ (1))), (4, .int (iZ (i))), (3, .ref o), (2, .ref a), (1, .ref x), (0, .ref b)]) X.1 X.2.1 d_LW_law_306 hl (by decide) rfl kk) (fun ls hl => ?_)
    refine g_1 (fun w => lv_aload_n X.1 X.2.1 d_LW_law_308 rfl (lv_at hl 4 rfl) w) ?_
    refine g_callV (na := 0) X (c_MD_thrown B0 hm) rfl f0 rfl ⟨⟨tw_551, tw_5⟩, ⟨by decide, by decide, by decide +kernel⟩, by decide, by decide⟩ tw_548 tw_549 tw_550 rfl hl.1 (Nat.le_of_ble_eq_true rfl) ⟨by show k + 5 + 0 ≤ 601024; omega, by show n + 2628 + 0 ≤ 7293034; omega⟩ d_LW_law_309 (fun v h9 hp => ?_)
    obtain ⟨rfl, rfl⟩ := hp
    refine g_widen (k' := k + 5) (n' := n + 2628) (by show k + 5 + 0 ≤ k + 5; omega) (by show n + 2628 + 0 ≤ n + 2628; omega) ?_
    show G D s0 p l e _ s0 m _ below meth c h8 _ _ _ (F0 m 312 ls [.int (iZ (1))])
    refine g_1 (fun w => lv_iload X.1 X.2.1 d_LW_law_312 (lv_at hl 1 rfl) w) ?_
    refine g_icmp_eq (tgt := 319) X (by first | exact ⟨by omega, by omega⟩ | exact hRok | exact hRlk | exact hxs _) (by first | exact ⟨by omega, by omega⟩ | exact hRok | exact hRlk | exact hxs _) d_LW_law_314 (by decide) (fun c314 => ?_) (fun c314 => ?_)
    · refine g_1 (fun w => lv_iload X.1 X.2.1 d_LW_law_319 (lv_at hl 1 rfl) w) ?_
      refine g_if_ne (tgt := 336) X (by first | exact ⟨by omega, by omega⟩ | exact hRok | exact hRlk | exact hxs _) d_LW_law_321 (by decide) (fun c321 => ?_) (fun c321 => ?_)
      · refine g_goto (tgt := 666) X d_LW_law_336 (by decide) ?_
        exact kont h8 ls ⟨A, bs, Y, ys, pn, tb, _, g0, hx, hm, fo, hI.t⟩ (lv_sub hl [2, 3, 4, 5, 6] rfl)
      · exact absurd c321 (by decide)
    · exact absurd c314 (by decide)
  · refine g_widen (k' := k + 5) (n' := n + 2628) (by show k + 1 ≤ k + 5; omega) (by show n + 6 ≤ n + 2628; omega) ?_
    show G D s0 p l e _ s0 m _ below meth c h _ _ _ (F0 m 282 ls [.int (iZ (2))])
    refine g_s (fun kk => lv_istore (lv' := [(5, .int (iZ (2))), (4, .int (iZ (i))), (3, .ref o), (2, .ref a), (1, .ref x), (0, .ref b)]) X.1 X.2.1 d_LW_law_282 hl (by decide) rfl kk) (fun ls hl => ?_)
    refine g_1 (fun w => lv_aload_n X.1 X.2.1 d_LW_law_284 rfl (lv_at hl 3 rfl) w) ?_
    refine g_1 (fun w => lv_aload_n X.1 X.2.1 d_LW_law_285 rfl (lv_at hl 5 rfl) w) ?_
    refine g_1 (fun w => lv_iload X.1 X.2.1 d_LW_law_286 (lv_at hl 1 rfl) w) ?_
    refine g_1 (fun w => lv_iconst (v := iZ 1) X.1 X.2.1 d_LW_law_288 rfl w) ?_
    refine g_iadd X d_LW_law_289 ?_
    refine g_sld X hX (i + 1) (by omega) (by omega) (by omega) d_LW_law_290 ?_
    refine g_1 (fun w => lv_aload_n X.1 X.2.1 d_LW_law_291 rfl (lv_at hl 5 rfl) w) ?_
    refine g_1 (fun w => lv_iload X.1 X.2.1 d_LW_law_292 (lv_at hl 1 rfl) w) ?_
    refine g_1 (fun w => lv_iconst (v := iZ 2) X.1 X.2.1 d_LW_law_294 rfl w) ?_
    refine g_iadd X d_LW_law_295 ?_
    refine g_sld X hX (i + 2) (by omega) (by omega) (by omega) d_LW_law_296 ?_
    refine g_1 (fun w => lv_aload_n X.1 X.2.1 d_LW_law_297 rfl (lv_at hl 5 rfl) w) ?_
    refine g_1 (fun w => lv_iload X.1 X.2.1 d_LW_law_298 (lv_at hl 1 rfl) w) ?_
    refine g_1 (fun w => lv_iconst (v := iZ 3) X.1 X.2.1 d_LW_law_300 rfl w) ?_
    refine g_iadd X d_LW_law_301 ?_
    refine g_sld X hX (i + 3) (by omega) (by omega) (by omega) d_LW_law_302 ?_
    refine g_callV (na := 3) X (c_MD_step B0 hm I2 I1 (hxs _) (hxs _) (hxs _)) rfl f0 rfl ⟨⟨tw_577, tw_5⟩, ⟨by decide, by decide, by decide +kernel⟩, by decide, by decide⟩ tw_574 tw_575 tw_576 rfl hl.1 (Nat.le_of_ble_eq_true rfl) ⟨by show k + 5 + 0 ≤ 601024; omega, by show n + 2628 + 0 ≤ 7293034; omega⟩ d_LW_law_303 (fun v h8 hp => ?_)
    obtain ⟨t, r, rfl, hm8, hkM, hd⟩ := hp
    obtain rfl : t = 2 := by
      obtain ⟨q1, q2, q3, q4, q5, q6⟩ := hbad
      rcases hd with ⟨z1, z2⟩ | ⟨z1, b2, zb, zl, hd⟩
      · exfalso; omega
      · obtain rfl : b2 = q3 := by omega
        rcases hd with ⟨y1, y2, y3⟩ | ⟨y1, y2, y3⟩ | ⟨y1, y2, k, y3, y4, y5⟩
        · exact absurd y1 q1
        · exact y3
        · exfalso; omega
    have hm := hm8
    have hx := kp_MD_LB hx hkM
    have fo := kp_oMD hkM fo
    obtain ⟨bl, yl, fX, -⟩ := id hx
    obtain ⟨p3, p4, p6, p7, p9, p10, p11, p12, p13, p14, f0, f3, f4, f6, f7, f9, f10, f11, f12, f13, f14⟩ := id hm
    refine g_widen (k' := k + 5) (n' := n + 2628) (by show k + 5 + 0 ≤ k + 5; omega) (by show n + 2628 + 0 ≤ n + 2628; omega) ?_
    show G D s0 p l e _ s0 m _ below meth c h8 _ _ _ (F0 m 306 ls [.int (iZ (r))])
    refine g_s (fun kk => lv_istore (lv' := [(6, .int (iZ (r))), (5, .int (iZ (2))), (4, .int (iZ (i))), (3, .ref o), (2, .ref a), (1, .ref x), (0, .ref b)]) X.1 X.2.1 d_LW_law_306 hl (by decide) rfl kk) (fun ls hl => ?_)
    refine g_1 (fun w => lv_aload_n X.1 X.2.1 d_LW_law_308 rfl (lv_at hl 4 rfl) w) ?_
    refine g_callV (na := 0) X (c_MD_thrown B0 hm) rfl f0 rfl ⟨⟨tw_551, tw_5⟩, ⟨by decide, by decide, by decide +kernel⟩, by decide, by decide⟩ tw_548 tw_549 tw_550 rfl hl.1 (Nat.le_of_ble_eq_true rfl) ⟨by show k + 5 + 0 ≤ 601024; omega, by show n + 2628 + 0 ≤ 7293034; omega⟩ d_LW_law_309 (fun v h9 hp => ?_)
    obtain ⟨rfl, rfl⟩ := hp
    refine g_widen (k' := k + 5) (n' := n + 2628) (by show k + 5 + 0 ≤ k + 5; omega) (by show n + 2628 + 0 ≤ n + 2628; omega) ?_
    show G D s0 p l e _ s0 m _ below meth c h8 _ _ _ (F0 m 312 ls [.int (iZ (2))])
    refine g_1 (fun w => lv_iload X.1 X.2.1 d_LW_law_312 (lv_at hl 1 rfl) w) ?_
    refine g_icmp_eq (tgt := 319) X (by first | exact ⟨by omega, by omega⟩ | exact hRok | exact hRlk | exact hxs _) (by first | exact ⟨by omega, by omega⟩ | exact hRok | exact hRlk | exact hxs _) d_LW_law_314 (by decide) (fun c314 => ?_) (fun c314 => ?_)
    · refine g_1 (fun w => lv_iload X.1 X.2.1 d_LW_law_319 (lv_at hl 1 rfl) w) ?_
      refine g_if_ne (tgt := 336) X (by first | exact ⟨by omega, by omega⟩ | exact hRok | exact hRlk | exact hxs _) d_LW_law_321 (by decide) (fun c321 => ?_) (fun c321 => ?_)
      · refine g_goto (tgt := 666) X d_LW_law_336 (by decide) ?_
        exact kont h8 ls ⟨A, bs, Y, ys, pn, tb, _, g0, hx, hm, fo, hI.t⟩ (lv_sub hl [2, 3, 4, 5, 6] rfl)
      · exact absurd c321 (by decide)
    · exact absurd c314 (by decide)

set_option maxHeartbeats 4000000 in
set_option maxRecDepth 100000 in
theorem law_4 {D : va_G} {s0 : State} {p : Program} {l : Launch} {e : Env} {m : MethodId} {below : List Frame} {meth : Method} {c : Code} {b L x a o i k n : Nat} {xs : Nat → Int} {h : gH} {ls : Array Slot} (B0 : gB D s0) (hfl : l.flags = flags0) (X : gX D s0 "LayerBudgetsLaw" code 8 ret p s0 m meth c) (hkn : k + 5 ≤ 601024 ∧ n + 2628 ≤ 7293034) (hi : i + 5 ≤ L) (hL : L ≤ 2560) (hxs : ∀ j, i_ok (xs j)) (hX : scrX s0 b L xs) (hS : lawS D h x a o)
    (kont : ∀ (h' : gH) (ls' : Array Slot), lawS D h' x a o → lv_has ls' 8 [(4, .int (iZ i)), (3, .ref o), (2, .ref a), (1, .ref x), (0, .ref b)] → GL D s0 p l e m below meth c b h' (k + 5) (n + 2628) (F0 m 666 ls' []))
    (hl : lv_has ls 8 [(4, .int (iZ i)), (3, .ref o), (2, .ref a), (1, .ref x), (0, .ref b)]) : GL D s0 p l e m below meth c b h k n (F0 m 339 ls []) := by
  obtain ⟨A, bs, Y, ys, pn, tb, M, g0, hx, hm, fo, hI⟩ := hS
  have hpn := hI.pn
  obtain ⟨I1, I2, I3, ⟨I4, I5⟩, I6, I7, I8, I9⟩ := id hI
  obtain ⟨hk1, hk2⟩ := id hkn
  have hAl : A.length ≤ 1024 := hpn.2.2.1
  have hYl : Y.length ≤ 64 := hpn.2.2.2
  have hbo : ∀ i, i < A.length → okB (bs i) := fun i hi => (I1 i hi).1.1
  obtain ⟨bl, yl, fX, -⟩ := id hx
  obtain ⟨p3, p4, p6, p7, p9, p10, p11, p12, p13, p14, f0, f3, f4, f6, f7, f9, f10, f11, f12, f13, f14⟩ := id hm
  refine g_1 (fun w => lv_aload_n X.1 X.2.1 d_LW_law_339 rfl (lv_at hl 3 rfl) w) ?_
  refine g_1 (fun w => lv_aload_n X.1 X.2.1 d_LW_law_340 rfl (lv_at hl 4 rfl) w) ?_
  refine g_1 (fun w => lv_iload X.1 X.2.1 d_LW_law_341 (lv_at hl 0 rfl) w) ?_
  refine g_1 (fun w => lv_iconst (v := iZ 1) X.1 X.2.1 d_LW_law_343 rfl w) ?_
  refine g_iadd X d_LW_law_344 ?_
  refine g_sld X hX (i + 1) (by omega) (by omega) (by omega) d_LW_law_345 ?_
  refine g_1 (fun w => lv_aload_n X.1 X.2.1 d_LW_law_346 rfl (lv_at hl 4 rfl) w) ?_
  refine g_1 (fun w => lv_iload X.1 X.2.1 d_LW_law_347 (lv_at hl 0 rfl) w) ?_
  refine g_1 (fun w => lv_iconst (v := iZ 2) X.1 X.2.1 d_LW_law_349 rfl w) ?_
  refine g_iadd X d_LW_law_350 ?_
  refine g_sld X hX (i + 2) (by omega) (by omega) (by omega) d_LW_law_351 ?_
  refine g_1 (fun w => lv_aload_n X.1 X.2.1 d_LW_law_352 rfl (lv_at hl 1 rfl) w) ?_
  refine g_callSW (na := 4) X (c_LW_gain B0 hfl hx hAl hYl hbo (hxs _) (hxs _) fo) rfl ⟨⟨tw_374, tw_0⟩, ⟨by decide, by decide, by decide +kernel⟩, by decide, by decide⟩ tw_372 tw_373 rfl hl.1 (Nat.le_of_ble_eq_true rfl) ⟨by show k + 1 ≤ 601024; omega, by show n + 6 ≤ 7293034; omega⟩ d_LW_law_353 (fun v h' hp => ?_)
  rcases hp with ⟨rfl, R, ⟨⟨bi, kj, hbi, hkj, hbl, hkl, hRe⟩, hx⟩, fo, hkO⟩ | ⟨rfl, hbad, rfl⟩ | ⟨rfl, hbad, rfl⟩
  · have hRlk : l_ok R := by
      obtain ⟨k1, k2, k3, k4, k5, k6, k7, k8⟩ := hbo bi hbl
      rw [hRe]
      have q2 := k7 (bC (bs bi) (kj + 1))
      have q3 := k7 (bC (bs bi) kj)
      exact ⟨by omega, by omega⟩
    have hm := kp_LO_MD hm hkO
    obtain ⟨bl, yl, fX, -⟩ := id hx
    obtain ⟨p3, p4, p6, p7, p9, p10, p11, p12, p13, p14, f0, f3, f4, f6, f7, f9, f10, f11, f12, f13, f14⟩ := id hm
    refine g_widen (k' := k + 5) (n' := n + 2628) (by show k + 1 ≤ k + 5; omega) (by show n + 6 ≤ n + 2628; omega) ?_
    show G D s0 p l e _ s0 m _ below meth c h' _ _ _ (F0 m 356 ls [.int (iZ (0))])
    refine g_s (fun kk => lv_istore (lv' := [(5, .int (iZ (0))), (4, .int (iZ (i))), (3, .ref o), (2, .ref a), (1, .ref x), (0, .ref b)]) X.1 X.2.1 d_LW_law_356 hl (by decide) rfl kk) (fun ls hl => ?_)
    refine g_1 (fun w => lv_aload_n X.1 X.2.1 d_LW_law_358 rfl (lv_at hl 3 rfl) w) ?_
    refine g_1 (fun w => lv_aload_n X.1 X.2.1 d_LW_law_359 rfl (lv_at hl 5 rfl) w) ?_
    refine g_1 (fun w => lv_iload X.1 X.2.1 d_LW_law_360 (lv_at hl 1 rfl) w) ?_
    refine g_1 (fun w => lv_iconst (v := iZ 1) X.1 X.2.1 d_LW_law_362 rfl w) ?_
    refine g_iadd X d_LW_law_363 ?_
    refine g_sld X hX (i + 1) (by omega) (by omega) (by omega) d_LW_law_364 ?_
    refine g_1 (fun w => lv_aload_n X.1 X.2.1 d_LW_law_365 rfl (lv_at hl 5 rfl) w) ?_
    refine g_1 (fun w => lv_iload X.1 X.2.1 d_LW_law_366 (lv_at hl 1 rfl) w) ?_
    refine g_1 (fun w => lv_iconst (v := iZ 2) X.1 X.2.1 d_LW_law_368 rfl w) ?_
    refine g_iadd X d_LW_law_369 ?_
    refine g_sld X hX (i + 2) (by omega) (by omega) (by omega) d_LW_law_370 ?_
    refine g_callV (na := 2) X (c_MD_gain B0 hm I2 I1 (hxs _) (hxs _)) rfl f0 rfl ⟨⟨tw_604, tw_5⟩, ⟨by decide, by decide, by decide +kernel⟩, by decide, by decide⟩ tw_601 tw_602 tw_603 rfl hl.1 (Nat.le_of_ble_eq_true rfl) ⟨by show k + 5 + 0 ≤ 601024; omega, by show n + 2628 + 0 ≤ 7293034; omega⟩ d_LW_law_371 (fun v h8 hp => ?_)
    obtain ⟨t, r, rfl, hm8, hkM, hd⟩ := hp
    obtain ⟨rfl, hr9⟩ : t = 0 ∧ r = R := by
      rcases hd with ⟨z1, z2⟩ | ⟨b2, zb, zl, z3, z4⟩ | ⟨b2, k2, zb, zk, zl, z3, z4, z5⟩
      · exfalso; omega
      · obtain rfl : b2 = bi := by omega
        exfalso; omega
      · obtain rfl : b2 = bi := by omega
        obtain rfl : k2 = kj := by omega
        exact ⟨z4, z5.trans hRe.symm⟩
    obtain rfl := hr9.symm
    have hm := hm8
    have hx := kp_MD_LB hx hkM
    have fo := kp_oMD hkM fo
    obtain ⟨bl, yl, fX, -⟩ := id hx
    obtain ⟨p3, p4, p6, p7, p9, p10, p11, p12, p13, p14, f0, f3, f4, f6, f7, f9, f10, f11, f12, f13, f14⟩ := id hm
    refine g_widen (k' := k + 5) (n' := n + 2628) (by show k + 5 + 0 ≤ k + 5; omega) (by show n + 2628 + 0 ≤ n + 2628; omega) ?_
    show G D s0 p l e _ s0 m _ below meth c h8 _ _ _ (F0 m 374 ls [.long (lZ (R))])
    refine g_s (fun kk => lv_lstore (lv' := [(6, .long (lZ (R))), (5, .int (iZ (0))), (4, .int (iZ (i))), (3, .ref o), (2, .ref a), (1, .ref x), (0, .ref b)]) X.1 X.2.1 d_LW_law_374 hl (by decide) rfl kk) (fun ls hl => ?_)
    refine g_1 (fun w => lv_aload_n X.1 X.2.1 d_LW_law_376 rfl (lv_at hl 4 rfl) w) ?_
    refine g_callV (na := 0) X (c_MD_thrown B0 hm) rfl f0 rfl ⟨⟨tw_551, tw_5⟩, ⟨by decide, by decide, by decide +kernel⟩, by decide, by decide⟩ tw_548 tw_549 tw_550 rfl hl.1 (Nat.le_of_ble_eq_true rfl) ⟨by show k + 5 + 0 ≤ 601024; omega, by show n + 2628 + 0 ≤ 7293034; omega⟩ d_LW_law_377 (fun v h9 hp => ?_)
    obtain ⟨rfl, rfl⟩ := hp
    refine g_widen (k' := k + 5) (n' := n + 2628) (by show k + 5 + 0 ≤ k + 5; omega) (by show n + 2628 + 0 ≤ n + 2628; omega) ?_
    show G D s0 p l e _ s0 m _ below meth c h8 _ _ _ (F0 m 380 ls [.int (iZ (0))])
    refine g_1 (fun w => lv_iload X.1 X.2.1 d_LW_law_380 (lv_at hl 1 rfl) w) ?_
    refine g_icmp_eq (tgt := 387) X (by first | exact ⟨by omega, by omega⟩ | exact hRok | exact hRlk | exact hxs _) (by first | exact ⟨by omega, by omega⟩ | exact hRok | exact hRlk | exact hxs _) d_LW_law_382 (by decide) (fun c382 => ?_) (fun c382 => ?_)
    · refine g_1 (fun w => lv_iload X.1 X.2.1 d_LW_law_387 (lv_at hl 1 rfl) w) ?_
      refine g_if_ne (tgt := 403) X (by first | exact ⟨by omega, by omega⟩ | exact hRok | exact hRlk | exact hxs _) d_LW_law_389 (by decide) (fun c389 => ?_) (fun c389 => ?_)
      · exact absurd c389 (by decide)
      · refine g_1 (fun w => lv_aload_n X.1 X.2.1 d_LW_law_392 rfl (lv_at hl 3 rfl) w) ?_
        refine g_1 (fun w => lv_iconst (v := iZ 0) X.1 X.2.1 d_LW_law_393 rfl w) ?_
        refine g_lld X fo (0) (rfl) (by omega) (by omega) d_LW_law_394 ?_
        refine g_tl (congrArg lZ (show ((va_up (g0) (0) (R)) 0 : Int) = R from va_up_self _ _ _)) ?_
        refine g_1 (fun w => lv_lload X.1 X.2.1 d_LW_law_395 (lv_at hl 0 rfl) w) ?_
        refine g_lcmp X (by first | exact ⟨by omega, by omega⟩ | exact hRok | exact hRlk | exact hxs _) (by first | exact ⟨by omega, by omega⟩ | exact hRok | exact hRlk | exact hxs _) d_LW_law_397 ?_
        refine g_if_eq (tgt := 403) X (cmpZ_ok _ _) d_LW_law_398 (by decide) (fun c398 => ?_) (fun c398 => ?_)
        · refine g_goto (tgt := 666) X d_LW_law_403 (by decide) ?_
          exact kont h8 ls ⟨A, bs, Y, ys, pn, tb, _, va_up (g0) (0) (R), hx, hm, fo, hI.t⟩ (lv_sub hl [2, 3, 4, 5, 6] rfl)
        · exact absurd (cmpZ_self _) c398
    · exact absurd c382 (by decide)
  · refine g_widen (k' := k + 5) (n' := n + 2628) (by show k + 1 ≤ k + 5; omega) (by show n + 6 ≤ n + 2628; omega) ?_
    show G D s0 p l e _ s0 m _ below meth c h _ _ _ (F0 m 356 ls [.int (iZ (1))])
    refine g_s (fun kk => lv_istore (lv' := [(5, .int (iZ (1))), (4, .int (iZ (i))), (3, .ref o), (2, .ref a), (1, .ref x), (0, .ref b)]) X.1 X.2.1 d_LW_law_356 hl (by decide) rfl kk) (fun ls hl => ?_)
    refine g_1 (fun w => lv_aload_n X.1 X.2.1 d_LW_law_358 rfl (lv_at hl 3 rfl) w) ?_
    refine g_1 (fun w => lv_aload_n X.1 X.2.1 d_LW_law_359 rfl (lv_at hl 5 rfl) w) ?_
    refine g_1 (fun w => lv_iload X.1 X.2.1 d_LW_law_360 (lv_at hl 1 rfl) w) ?_
    refine g_1 (fun w => lv_iconst (v := iZ 1) X.1 X.2.1 d_LW_law_362 rfl w) ?_
    refine g_iadd X d_LW_law_363 ?_
    refine g_sld X hX (i + 1) (by omega) (by omega) (by omega) d_LW_law_364 ?_
    refine g_1 (fun w => lv_aload_n X.1 X.2.1 d_LW_law_365 rfl (lv_at hl 5 rfl) w) ?_
    refine g_1 (fun w => lv_iload X.1 X.2.1 d_LW_law_366 (lv_at hl 1 rfl) w) ?_
    refine g_1 (fun w => lv_iconst (v := iZ 2) X.1 X.2.1 d_LW_law_368 rfl w) ?_
    refine g_iadd X d_LW_law_369 ?_
    refine g_sld X hX (i + 2) (by omega) (by omega) (by omega) d_LW_law_370 ?_
    refine g_callV (na := 2) X (c_MD_gain B0 hm I2 I1 (hxs _) (hxs _)) rfl f0 rfl ⟨⟨tw_604, tw_5⟩, ⟨by decide, by decide, by decide +kernel⟩, by decide, by decide⟩ tw_601 tw_602 tw_603 rfl hl.1 (Nat.le_of_ble_eq_true rfl) ⟨by show k + 5 + 0 ≤ 601024; omega, by show n + 2628 + 0 ≤ 7293034; omega⟩ d_LW_law_371 (fun v h8 hp => ?_)
    obtain ⟨t, r, rfl, hm8, hkM, hd⟩ := hp
    obtain rfl : t = 1 := by
      rcases hd with ⟨z1, z2⟩ | ⟨b2, zb, zl, z3, z4⟩ | ⟨b2, k2, zb, zk, zl, z3, z4, z5⟩
      · exact z2
      · exfalso; omega
      · exfalso; omega
    have hm := hm8
    have hx := kp_MD_LB hx hkM
    have fo := kp_oMD hkM fo
    obtain ⟨bl, yl, fX, -⟩ := id hx
    obtain ⟨p3, p4, p6, p7, p9, p10, p11, p12, p13, p14, f0, f3, f4, f6, f7, f9, f10, f11, f12, f13, f14⟩ := id hm
    refine g_widen (k' := k + 5) (n' := n + 2628) (by show k + 5 + 0 ≤ k + 5; omega) (by show n + 2628 + 0 ≤ n + 2628; omega) ?_
    show G D s0 p l e _ s0 m _ below meth c h8 _ _ _ (F0 m 374 ls [.long (lZ (r))])
    refine g_s (fun kk => lv_lstore (lv' := [(6, .long (lZ (r))), (5, .int (iZ (1))), (4, .int (iZ (i))), (3, .ref o), (2, .ref a), (1, .ref x), (0, .ref b)]) X.1 X.2.1 d_LW_law_374 hl (by decide) rfl kk) (fun ls hl => ?_)
    refine g_1 (fun w => lv_aload_n X.1 X.2.1 d_LW_law_376 rfl (lv_at hl 4 rfl) w) ?_
    refine g_callV (na := 0) X (c_MD_thrown B0 hm) rfl f0 rfl ⟨⟨tw_551, tw_5⟩, ⟨by decide, by decide, by decide +kernel⟩, by decide, by decide⟩ tw_548 tw_549 tw_550 rfl hl.1 (Nat.le_of_ble_eq_true rfl) ⟨by show k + 5 + 0 ≤ 601024; omega, by show n + 2628 + 0 ≤ 7293034; omega⟩ d_LW_law_377 (fun v h9 hp => ?_)
    obtain ⟨rfl, rfl⟩ := hp
    refine g_widen (k' := k + 5) (n' := n + 2628) (by show k + 5 + 0 ≤ k + 5; omega) (by show n + 2628 + 0 ≤ n + 2628; omega) ?_
    show G D s0 p l e _ s0 m _ below meth c h8 _ _ _ (F0 m 380 ls [.int (iZ (1))])
    refine g_1 (fun w => lv_iload X.1 X.2.1 d_LW_law_380 (lv_at hl 1 rfl) w) ?_
    refine g_icmp_eq (tgt := 387) X (by first | exact ⟨by omega, by omega⟩ | exact hRok | exact hRlk | exact hxs _) (by first | exact ⟨by omega, by omega⟩ | exact hRok | exact hRlk | exact hxs _) d_LW_law_382 (by decide) (fun c382 => ?_) (fun c382 => ?_)
    · refine g_1 (fun w => lv_iload X.1 X.2.1 d_LW_law_387 (lv_at hl 1 rfl) w) ?_
      refine g_if_ne (tgt := 403) X (by first | exact ⟨by omega, by omega⟩ | exact hRok | exact hRlk | exact hxs _) d_LW_law_389 (by decide) (fun c389 => ?_) (fun c389 => ?_)
      · refine g_goto (tgt := 666) X d_LW_law_403 (by decide) ?_
        exact kont h8 ls ⟨A, bs, Y, ys, pn, tb, _, g0, hx, hm, fo, hI.t⟩ (lv_sub hl [2, 3, 4, 5, 6] rfl)
      · exact absurd c389 (by decide)
    · exact absurd c382 (by decide)
  · refine g_widen (k' := k + 5) (n' := n + 2628) (by show k + 1 ≤ k + 5; omega) (by show n + 6 ≤ n + 2628; omega) ?_
    show G D s0 p l e _ s0 m _ below meth c h _ _ _ (F0 m 356 ls [.int (iZ (2))])
    refine g_s (fun kk => lv_istore (lv' := [(5, .int (iZ (2))), (4, .int (iZ (i))), (3, .ref o), (2, .ref a), (1, .ref x), (0, .ref b)]) X.1 X.2.1 d_LW_law_356 hl (by decide) rfl kk) (fun ls hl => ?_)
    refine g_1 (fun w => lv_aload_n X.1 X.2.1 d_LW_law_358 rfl (lv_at hl 3 rfl) w) ?_
    refine g_1 (fun w => lv_aload_n X.1 X.2.1 d_LW_law_359 rfl (lv_at hl 5 rfl) w) ?_
    refine g_1 (fun w => lv_iload X.1 X.2.1 d_LW_law_360 (lv_at hl 1 rfl) w) ?_
    refine g_1 (fun w => lv_iconst (v := iZ 1) X.1 X.2.1 d_LW_law_362 rfl w) ?_
    refine g_iadd X d_LW_law_363 ?_
    refine g_sld X hX (i + 1) (by omega) (by omega) (by omega) d_LW_law_364 ?_
    refine g_1 (fun w => lv_aload_n X.1 X.2.1 d_LW_law_365 rfl (lv_at hl 5 rfl) w) ?_
    refine g_1 (fun w => lv_iload X.1 X.2.1 d_LW_law_366 (lv_at hl 1 rfl) w) ?_
    refine g_1 (fun w => lv_iconst (v := iZ 2) X.1 X.2.1 d_LW_law_368 rfl w) ?_
    refine g_iadd X d_LW_law_369 ?_
    refine g_sld X hX (i + 2) (by omega) (by omega) (by omega) d_LW_law_370 ?_
    refine g_callV (na := 2) X (c_MD_gain B0 hm I2 I1 (hxs _) (hxs _)) rfl f0 rfl ⟨⟨tw_604, tw_5⟩, ⟨by decide, by decide, by decide +kernel⟩, by decide, by decide⟩ tw_601 tw_602 tw_603 rfl hl.1 (Nat.le_of_ble_eq_true rfl) ⟨by show k + 5 + 0 ≤ 601024; omega, by show n + 2628 + 0 ≤ 7293034; omega⟩ d_LW_law_371 (fun v h8 hp => ?_)
    obtain ⟨t, r, rfl, hm8, hkM, hd⟩ := hp
    obtain rfl : t = 2 := by
      obtain ⟨q3, q4, q5, q6⟩ := hbad
      rcases hd with ⟨z1, z2⟩ | ⟨b2, zb, zl, z3, z4⟩ | ⟨b2, k2, zb, zk, zl, z3, z4, z5⟩
      · exfalso; omega
      · exact z4
      · obtain rfl : b2 = q3 := by omega
        exfalso; omega
    have hm := hm8
    have hx := kp_MD_LB hx hkM
    have fo := kp_oMD hkM fo
    obtain ⟨bl, yl, fX, -⟩ := id hx
    obtain ⟨p3, p4, p6, p7, p9, p10, p11, p12, p13, p14, f0, f3, f4, f6, f7, f9, f10, f11, f12, f13, f14⟩ := id hm
    refine g_widen (k' := k + 5) (n' := n + 2628) (by show k + 5 + 0 ≤ k + 5; omega) (by show n + 2628 + 0 ≤ n + 2628; omega) ?_
    show G D s0 p l e _ s0 m _ below meth c h8 _ _ _ (F0 m 374 ls [.long (lZ (r))])
    refine g_s (fun kk => lv_lstore (lv' := [(6, .long (lZ (r))), (5, .int (iZ (2))), (4, .int (iZ (i))), (3, .ref o), (2, .ref a), (1, .ref x), (0, .ref b)]) X.1 X.2.1 d_LW_law_374 hl (by decide) rfl kk) (fun ls hl => ?_)
    refine g_1 (fun w => lv_aload_n X.1 X.2.1 d_LW_law_376 rfl (lv_at hl 4 rfl) w) ?_
    refine g_callV (na := 0) X (c_MD_thrown B0 hm) rfl f0 rfl ⟨⟨tw_551, tw_5⟩, ⟨by decide, by decide, by decide +kernel⟩, by decide, by decide⟩ tw_548 tw_549 tw_550 rfl hl.1 (Nat.le_of_ble_eq_true rfl) ⟨by show k + 5 + 0 ≤ 601024; omega, by show n + 2628 + 0 ≤ 7293034; omega⟩ d_LW_law_377 (fun v h9 hp => ?_)
    obtain ⟨rfl, rfl⟩ := hp
    refine g_widen (k' := k + 5) (n' := n + 2628) (by show k + 5 + 0 ≤ k + 5; omega) (by show n + 2628 + 0 ≤ n + 2628; omega) ?_
    show G D s0 p l e _ s0 m _ below meth c h8 _ _ _ (F0 m 380 ls [.int (iZ (2))])
    refine g_1 (fun w => lv_iload X.1 X.2.1 d_LW_law_380 (lv_at hl 1 rfl) w) ?_
    refine g_icmp_eq (tgt := 387) X (by first | exact ⟨by omega, by omega⟩ | exact hRok | exact hRlk | exact hxs _) (by first | exact ⟨by omega, by omega⟩ | exact hRok | exact hRlk | exact hxs _) d_LW_law_382 (by decide) (fun c382 => ?_) (fun c382 => ?_)
    · refine g_1 (fun w => lv_iload X.1 X.2.1 d_LW_law_387 (lv_at hl 1 rfl) w) ?_
      refine g_if_ne (tgt := 403) X (by first | exact ⟨by omega, by omega⟩ | exact hRok | exact hRlk | exact hxs _) d_LW_law_389 (by decide) (fun c389 => ?_) (fun c389 => ?_)
      · refine g_goto (tgt := 666) X d_LW_law_403 (by decide) ?_
        exact kont h8 ls ⟨A, bs, Y, ys, pn, tb, _, g0, hx, hm, fo, hI.t⟩ (lv_sub hl [2, 3, 4, 5, 6] rfl)
      · exact absurd c389 (by decide)
    · exact absurd c382 (by decide)

set_option maxHeartbeats 4000000 in
set_option maxRecDepth 100000 in
theorem law_5 {D : va_G} {s0 : State} {p : Program} {l : Launch} {e : Env} {m : MethodId} {below : List Frame} {meth : Method} {c : Code} {b L x a o i k n : Nat} {xs : Nat → Int} {h : gH} {ls : Array Slot} (B0 : gB D s0) (hfl : l.flags = flags0) (X : gX D s0 "LayerBudgetsLaw" code 8 ret p s0 m meth c) (hkn : k + 5 ≤ 601024 ∧ n + 2628 ≤ 7293034) (hi : i + 5 ≤ L) (hL : L ≤ 2560) (hxs : ∀ j, i_ok (xs j)) (hX : scrX s0 b L xs) (hS : lawS D h x a o)
    (kont : ∀ (h' : gH) (ls' : Array Slot), lawS D h' x a o → lv_has ls' 8 [(4, .int (iZ i)), (3, .ref o), (2, .ref a), (1, .ref x), (0, .ref b)] → GL D s0 p l e m below meth c b h' (k + 5) (n + 2628) (F0 m 666 ls' []))
    (hl : lv_has ls 8 [(4, .int (iZ i)), (3, .ref o), (2, .ref a), (1, .ref x), (0, .ref b)]) : GL D s0 p l e m below meth c b h k n (F0 m 406 ls []) := by
  obtain ⟨A, bs, Y, ys, pn, tb, M, g0, hx, hm, fo, hI⟩ := hS
  have hpn := hI.pn
  obtain ⟨I1, I2, I3, ⟨I4, I5⟩, I6, I7, I8, I9⟩ := id hI
  obtain ⟨hk1, hk2⟩ := id hkn
  have hAl : A.length ≤ 1024 := hpn.2.2.1
  have hYl : Y.length ≤ 64 := hpn.2.2.2
  have hbo : ∀ i, i < A.length → okB (bs i) := fun i hi => (I1 i hi).1.1
  obtain ⟨bl, yl, fX, -⟩ := id hx
  obtain ⟨p3, p4, p6, p7, p9, p10, p11, p12, p13, p14, f0, f3, f4, f6, f7, f9, f10, f11, f12, f13, f14⟩ := id hm
  obtain ⟨N, hN⟩ : ∃ N : Nat, pn = N := ⟨pn.toNat, by omega⟩
  have hNl : N ≤ 16384 := by omega
  obtain ⟨QQ, hQQ⟩ : ∃ QQ, QQ = layQ A.length N (xs (i + 1)) bs tb := ⟨_, rfl⟩
  have hQb : i_ok QQ.2.1 := by
    rw [hQQ, lay_tot I1 I6]
    have z := totB_bd (bs := (layQ A.length N (xs (i + 1)) bs tb).1) (n := A.length) (fun i hi => (lay_wfC I1 i hi).1)
    exact ⟨by omega, by omega⟩
  have hrem : rem bs A.length ≤ N := by have z := rem_beg I1; omega
  have hcut : ∀ b, b < A.length → (Y.length = 0 → bL (bs b) = 0) ∧ (0 < Y.length → aC M (1024 * (Y.length - 1) + b) = bL (bs b)) := fun b hb => ⟨fun z => ((I7 z).2 b hb).2, fun z => by rw [(I3.2.2 (Y.length - 1) (by omega)).2.2.2 b hb]; exact I9 z b hb⟩
  refine g_1 (fun w => lv_aload_n X.1 X.2.1 d_LW_law_406 rfl (lv_at hl 3 rfl) w) ?_
  refine g_1 (fun w => lv_aload_n X.1 X.2.1 d_LW_law_407 rfl (lv_at hl 4 rfl) w) ?_
  refine g_1 (fun w => lv_iload X.1 X.2.1 d_LW_law_408 (lv_at hl 0 rfl) w) ?_
  refine g_1 (fun w => lv_iconst (v := iZ 1) X.1 X.2.1 d_LW_law_410 rfl w) ?_
  refine g_iadd X d_LW_law_411 ?_
  refine g_sld X hX (i + 1) (by omega) (by omega) (by omega) d_LW_law_412 ?_
  refine g_1 (fun w => lv_aload_n X.1 X.2.1 d_LW_law_413 rfl (lv_at hl 1 rfl) w) ?_
  refine g_callSW (na := 3) X (c_LW_layer B0 hfl hx hAl hYl (fun i hi => (I1 i hi).1) hN hNl I6 (hxs _) hQQ hQb fo) rfl ⟨⟨tw_382, tw_0⟩, ⟨by decide, by decide, by decide +kernel⟩, by decide, by decide⟩ tw_380 tw_381 rfl hl.1 (Nat.le_of_ble_eq_true rfl) ⟨by show k + 3 ≤ 601024; omega, by show n + 2628 ≤ 7293034; omega⟩ d_LW_law_414 (fun v h' hp => ?_)
  rcases hp with ⟨rfl, R, ⟨hb1, hyl, rfl, bb, cf, hcf, hx⟩, fo, hkO⟩ | ⟨rfl, hbad, rfl⟩ | ⟨rfl, hbad, rfl⟩
  · have hRok := hQb
    have hRlk : l_ok QQ.2.1 := by obtain ⟨q1, q2⟩ := hQb; exact ⟨by omega, by omega⟩
    have hm := kp_LO_MD hm hkO
    obtain ⟨bl, yl, fX, -⟩ := id hx
    obtain ⟨p3, p4, p6, p7, p9, p10, p11, p12, p13, p14, f0, f3, f4, f6, f7, f9, f10, f11, f12, f13, f14⟩ := id hm
    refine g_widen (k' := k + 5) (n' := n + 2628) (by show k + 3 ≤ k + 5; omega) (by show n + 2628 ≤ n + 2628; omega) ?_
    show G D s0 p l e _ s0 m _ below meth c h' _ _ _ (F0 m 417 ls [.int (iZ (0))])
    refine g_s (fun kk => lv_istore (lv' := [(5, .int (iZ (0))), (4, .int (iZ (i))), (3, .ref o), (2, .ref a), (1, .ref x), (0, .ref b)]) X.1 X.2.1 d_LW_law_417 hl (by decide) rfl kk) (fun ls hl => ?_)
    refine g_1 (fun w => lv_aload_n X.1 X.2.1 d_LW_law_419 rfl (lv_at hl 3 rfl) w) ?_
    refine g_1 (fun w => lv_aload_n X.1 X.2.1 d_LW_law_420 rfl (lv_at hl 5 rfl) w) ?_
    refine g_1 (fun w => lv_iload X.1 X.2.1 d_LW_law_421 (lv_at hl 1 rfl) w) ?_
    refine g_1 (fun w => lv_iconst (v := iZ 1) X.1 X.2.1 d_LW_law_423 rfl w) ?_
    refine g_iadd X d_LW_law_424 ?_
    refine g_sld X hX (i + 1) (by omega) (by omega) (by omega) d_LW_law_425 ?_
    refine g_callV (na := 1) X (c_MD_layer B0 hm I2 I1 I3.1 I3.2.1 hcut (hxs _) hrem I6 hQQ) rfl f0 rfl ⟨⟨tw_608, tw_5⟩, ⟨by decide, by decide, by decide +kernel⟩, by decide, by decide⟩ tw_605 tw_606 tw_607 rfl hl.1 (Nat.le_of_ble_eq_true rfl) ⟨by show k + 5 + 0 ≤ 601024; omega, by show n + 2628 + 0 ≤ 7293034; omega⟩ d_LW_law_426 (fun v h8 hp => ?_)
    obtain ⟨t, r, rfl, hkM, hd⟩ := hp
    obtain ⟨rfl, rfl, C', kq, xq, hC1, hC2, hm⟩ : t = 0 ∧ r = QQ.2.1 ∧ ∃ C' k x : Nat → Int, (∀ b, b < A.length → C' (1024 * Y.length + b) = bL (QQ.1 b)) ∧ (∀ j, j < 1024 * Y.length → C' j = aC M j) ∧ isMD D h8 a (0, mN M, mA M, mU M, mY M + 1, aP M, aB M, aY M, aG M, C', va_up (aT M) Y.length (totB QQ.1 A.length), va_up (aL M) Y.length QQ.2.2.1, va_up (aM M) Y.length QQ.2.2.2, k, x) := by
      rcases hd with ⟨z1, z2, z3⟩ | ⟨z1, z2, z3, z4⟩ | ⟨z1, z2, z3, z4, z5⟩
      · exfalso; omega
      · exact absurd hyl z2
      · exact ⟨z3, z4, z5⟩
    have hx := kp_MD_LB hx hkM
    have fo := kp_oMD hkM fo
    obtain ⟨bl, yl, fX, -⟩ := id hx
    obtain ⟨p3, p4, p6, p7, p9, p10, p11, p12, p13, p14, f0, f3, f4, f6, f7, f9, f10, f11, f12, f13, f14⟩ := id hm
    refine g_widen (k' := k + 5) (n' := n + 2628) (by show k + 5 + 0 ≤ k + 5; omega) (by show n + 2628 + 0 ≤ n + 2628; omega) ?_
    show G D s0 p l e _ s0 m _ below meth c h8 _ _ _ (F0 m 429 ls [.int (iZ (QQ.2.1))])
    refine g_s (fun kk => lv_istore (lv' := [(6, .int (iZ (QQ.2.1))), (5, .int (iZ (0))), (4, .int (iZ (i))), (3, .ref o), (2, .ref a), (1, .ref x), (0, .ref b)]) X.1 X.2.1 d_LW_law_429 hl (by decide) rfl kk) (fun ls hl => ?_)
    refine g_1 (fun w => lv_aload_n X.1 X.2.1 d_LW_law_431 rfl (lv_at hl 4 rfl) w) ?_
    refine g_callV (na := 0) X (c_MD_thrown B0 hm) rfl f0 rfl ⟨⟨tw_551, tw_5⟩, ⟨by decide, by decide, by decide +kernel⟩, by decide, by decide⟩ tw_548 tw_549 tw_550 rfl hl.1 (Nat.le_of_ble_eq_true rfl) ⟨by show k + 5 + 0 ≤ 601024; omega, by show n + 2628 + 0 ≤ 7293034; omega⟩ d_LW_law_432 (fun v h9 hp => ?_)
    obtain ⟨rfl, rfl⟩ := hp
    refine g_widen (k' := k + 5) (n' := n + 2628) (by show k + 5 + 0 ≤ k + 5; omega) (by show n + 2628 + 0 ≤ n + 2628; omega) ?_
    show G D s0 p l e _ s0 m _ below meth c h8 _ _ _ (F0 m 435 ls [.int (iZ (0))])
    refine g_1 (fun w => lv_iload X.1 X.2.1 d_LW_law_435 (lv_at hl 1 rfl) w) ?_
    refine g_icmp_eq (tgt := 442) X (by first | exact ⟨by omega, by omega⟩ | exact hRok | exact hRlk | exact hxs _) (by first | exact ⟨by omega, by omega⟩ | exact hRok | exact hRlk | exact hxs _) d_LW_law_437 (by decide) (fun c437 => ?_) (fun c437 => ?_)
    · refine g_1 (fun w => lv_iload X.1 X.2.1 d_LW_law_442 (lv_at hl 1 rfl) w) ?_
      refine g_if_ne (tgt := 459) X (by first | exact ⟨by omega, by omega⟩ | exact hRok | exact hRlk | exact hxs _) d_LW_law_444 (by decide) (fun c444 => ?_) (fun c444 => ?_)
      · exact absurd c444 (by decide)
      · refine g_1 (fun w => lv_aload_n X.1 X.2.1 d_LW_law_447 rfl (lv_at hl 3 rfl) w) ?_
        refine g_1 (fun w => lv_iconst (v := iZ 0) X.1 X.2.1 d_LW_law_448 rfl w) ?_
        refine g_lld X fo (0) (rfl) (by omega) (by omega) d_LW_law_449 ?_
        refine g_tl (congrArg lZ (show ((va_up (g0) (0) (QQ.2.1)) 0 : Int) = QQ.2.1 from va_up_self _ _ _)) ?_
        refine g_1 (fun w => lv_iload X.1 X.2.1 d_LW_law_450 (lv_at hl 0 rfl) w) ?_
        refine g_i2l X (by first | exact ⟨by omega, by omega⟩ | exact hRok | exact hRlk | exact hxs _) d_LW_law_452 ?_
        refine g_lcmp X (by first | exact ⟨by omega, by omega⟩ | exact hRok | exact hRlk | exact hxs _) (by first | exact ⟨by omega, by omega⟩ | exact hRok | exact hRlk | exact hxs _) d_LW_law_453 ?_
        refine g_if_eq (tgt := 459) X (cmpZ_ok _ _) d_LW_law_454 (by decide) (fun c454 => ?_) (fun c454 => ?_)
        · refine g_goto (tgt := 666) X d_LW_law_459 (by decide) ?_
          have hI2 := INV_layer (k := kq) (x := xq) hI hyl hQQ hcf hC1 hC2
          rw [show Y.length + 1 = (Y ++ [bb]).length by simp] at hI2
          exact kont h8 ls ⟨A, _, Y ++ [bb], _, pn, _, _, va_up (g0) (0) (QQ.2.1), hx, hm, fo, hI2⟩ (lv_sub hl [2, 3, 4, 5, 6] rfl)
        · exact absurd (cmpZ_self _) c454
    · exact absurd c437 (by decide)
  · refine g_widen (k' := k + 5) (n' := n + 2628) (by show k + 3 ≤ k + 5; omega) (by show n + 2628 ≤ n + 2628; omega) ?_
    show G D s0 p l e _ s0 m _ below meth c h _ _ _ (F0 m 417 ls [.int (iZ (1))])
    refine g_s (fun kk => lv_istore (lv' := [(5, .int (iZ (1))), (4, .int (iZ (i))), (3, .ref o), (2, .ref a), (1, .ref x), (0, .ref b)]) X.1 X.2.1 d_LW_law_417 hl (by decide) rfl kk) (fun ls hl => ?_)
    refine g_1 (fun w => lv_aload_n X.1 X.2.1 d_LW_law_419 rfl (lv_at hl 3 rfl) w) ?_
    refine g_1 (fun w => lv_aload_n X.1 X.2.1 d_LW_law_420 rfl (lv_at hl 5 rfl) w) ?_
    refine g_1 (fun w => lv_iload X.1 X.2.1 d_LW_law_421 (lv_at hl 1 rfl) w) ?_
    refine g_1 (fun w => lv_iconst (v := iZ 1) X.1 X.2.1 d_LW_law_423 rfl w) ?_
    refine g_iadd X d_LW_law_424 ?_
    refine g_sld X hX (i + 1) (by omega) (by omega) (by omega) d_LW_law_425 ?_
    refine g_callV (na := 1) X (c_MD_layer B0 hm I2 I1 I3.1 I3.2.1 hcut (hxs _) hrem I6 hQQ) rfl f0 rfl ⟨⟨tw_608, tw_5⟩, ⟨by decide, by decide, by decide +kernel⟩, by decide, by decide⟩ tw_605 tw_606 tw_607 rfl hl.1 (Nat.le_of_ble_eq_true rfl) ⟨by show k + 5 + 0 ≤ 601024; omega, by show n + 2628 + 0 ≤ 7293034; omega⟩ d_LW_law_426 (fun v h8 hp => ?_)
    obtain ⟨t, r, rfl, hkM, hd⟩ := hp
    obtain ⟨rfl, hm⟩ : t = 1 ∧ isMD D h8 a (1, M.2) := by
      rcases hd with ⟨z1, z2, z3⟩ | ⟨z1, z2, z3, z4⟩ | ⟨z1, z2, z3, z4, z5⟩
      · exact ⟨z2, z3⟩
      · exfalso; omega
      · exfalso; omega
    have hx := kp_MD_LB hx hkM
    have fo := kp_oMD hkM fo
    obtain ⟨bl, yl, fX, -⟩ := id hx
    obtain ⟨p3, p4, p6, p7, p9, p10, p11, p12, p13, p14, f0, f3, f4, f6, f7, f9, f10, f11, f12, f13, f14⟩ := id hm
    refine g_widen (k' := k + 5) (n' := n + 2628) (by show k + 5 + 0 ≤ k + 5; omega) (by show n + 2628 + 0 ≤ n + 2628; omega) ?_
    show G D s0 p l e _ s0 m _ below meth c h8 _ _ _ (F0 m 429 ls [.int (iZ (r))])
    refine g_s (fun kk => lv_istore (lv' := [(6, .int (iZ (r))), (5, .int (iZ (1))), (4, .int (iZ (i))), (3, .ref o), (2, .ref a), (1, .ref x), (0, .ref b)]) X.1 X.2.1 d_LW_law_429 hl (by decide) rfl kk) (fun ls hl => ?_)
    refine g_1 (fun w => lv_aload_n X.1 X.2.1 d_LW_law_431 rfl (lv_at hl 4 rfl) w) ?_
    refine g_callV (na := 0) X (c_MD_thrown B0 hm) rfl f0 rfl ⟨⟨tw_551, tw_5⟩, ⟨by decide, by decide, by decide +kernel⟩, by decide, by decide⟩ tw_548 tw_549 tw_550 rfl hl.1 (Nat.le_of_ble_eq_true rfl) ⟨by show k + 5 + 0 ≤ 601024; omega, by show n + 2628 + 0 ≤ 7293034; omega⟩ d_LW_law_432 (fun v h9 hp => ?_)
    obtain ⟨rfl, rfl⟩ := hp
    refine g_widen (k' := k + 5) (n' := n + 2628) (by show k + 5 + 0 ≤ k + 5; omega) (by show n + 2628 + 0 ≤ n + 2628; omega) ?_
    show G D s0 p l e _ s0 m _ below meth c h8 _ _ _ (F0 m 435 ls [.int (iZ (1))])
    refine g_1 (fun w => lv_iload X.1 X.2.1 d_LW_law_435 (lv_at hl 1 rfl) w) ?_
    refine g_icmp_eq (tgt := 442) X (by first | exact ⟨by omega, by omega⟩ | exact hRok | exact hRlk | exact hxs _) (by first | exact ⟨by omega, by omega⟩ | exact hRok | exact hRlk | exact hxs _) d_LW_law_437 (by decide) (fun c437 => ?_) (fun c437 => ?_)
    · refine g_1 (fun w => lv_iload X.1 X.2.1 d_LW_law_442 (lv_at hl 1 rfl) w) ?_
      refine g_if_ne (tgt := 459) X (by first | exact ⟨by omega, by omega⟩ | exact hRok | exact hRlk | exact hxs _) d_LW_law_444 (by decide) (fun c444 => ?_) (fun c444 => ?_)
      · refine g_goto (tgt := 666) X d_LW_law_459 (by decide) ?_
        exact kont h8 ls ⟨A, bs, Y, ys, pn, tb, _, g0, hx, hm, fo, hI.t⟩ (lv_sub hl [2, 3, 4, 5, 6] rfl)
      · exact absurd c444 (by decide)
    · exact absurd c437 (by decide)
  · refine g_widen (k' := k + 5) (n' := n + 2628) (by show k + 3 ≤ k + 5; omega) (by show n + 2628 ≤ n + 2628; omega) ?_
    show G D s0 p l e _ s0 m _ below meth c h _ _ _ (F0 m 417 ls [.int (iZ (2))])
    refine g_s (fun kk => lv_istore (lv' := [(5, .int (iZ (2))), (4, .int (iZ (i))), (3, .ref o), (2, .ref a), (1, .ref x), (0, .ref b)]) X.1 X.2.1 d_LW_law_417 hl (by decide) rfl kk) (fun ls hl => ?_)
    refine g_1 (fun w => lv_aload_n X.1 X.2.1 d_LW_law_419 rfl (lv_at hl 3 rfl) w) ?_
    refine g_1 (fun w => lv_aload_n X.1 X.2.1 d_LW_law_420 rfl (lv_at hl 5 rfl) w) ?_
    refine g_1 (fun w => lv_iload X.1 X.2.1 d_LW_law_421 (lv_at hl 1 rfl) w) ?_
    refine g_1 (fun w => lv_iconst (v := iZ 1) X.1 X.2.1 d_LW_law_423 rfl w) ?_
    refine g_iadd X d_LW_law_424 ?_
    refine g_sld X hX (i + 1) (by omega) (by omega) (by omega) d_LW_law_425 ?_
    refine g_callV (na := 1) X (c_MD_layer B0 hm I2 I1 I3.1 I3.2.1 hcut (hxs _) hrem I6 hQQ) rfl f0 rfl ⟨⟨tw_608, tw_5⟩, ⟨by decide, by decide, by decide +kernel⟩, by decide, by decide⟩ tw_605 tw_606 tw_607 rfl hl.1 (Nat.le_of_ble_eq_true rfl) ⟨by show k + 5 + 0 ≤ 601024; omega, by show n + 2628 + 0 ≤ 7293034; omega⟩ d_LW_law_426 (fun v h8 hp => ?_)
    obtain ⟨t, r, rfl, hkM, hd⟩ := hp
    obtain ⟨rfl, hm⟩ : t = 2 ∧ isMD D h8 a (2, M.2) := by
      obtain ⟨q1, q2⟩ := hbad
      rcases hd with ⟨z1, z2, z3⟩ | ⟨z1, z2, z3, z4⟩ | ⟨z1, z2, z3, z4, z5⟩
      · exfalso; omega
      · exact ⟨z3, z4⟩
      · exact absurd z2 q2
    have hx := kp_MD_LB hx hkM
    have fo := kp_oMD hkM fo
    obtain ⟨bl, yl, fX, -⟩ := id hx
    obtain ⟨p3, p4, p6, p7, p9, p10, p11, p12, p13, p14, f0, f3, f4, f6, f7, f9, f10, f11, f12, f13, f14⟩ := id hm
    refine g_widen (k' := k + 5) (n' := n + 2628) (by show k + 5 + 0 ≤ k + 5; omega) (by show n + 2628 + 0 ≤ n + 2628; omega) ?_
    show G D s0 p l e _ s0 m _ below meth c h8 _ _ _ (F0 m 429 ls [.int (iZ (r))])
    refine g_s (fun kk => lv_istore (lv' := [(6, .int (iZ (r))), (5, .int (iZ (2))), (4, .int (iZ (i))), (3, .ref o), (2, .ref a), (1, .ref x), (0, .ref b)]) X.1 X.2.1 d_LW_law_429 hl (by decide) rfl kk) (fun ls hl => ?_)
    refine g_1 (fun w => lv_aload_n X.1 X.2.1 d_LW_law_431 rfl (lv_at hl 4 rfl) w) ?_
    refine g_callV (na := 0) X (c_MD_thrown B0 hm) rfl f0 rfl ⟨⟨tw_551, tw_5⟩, ⟨by decide, by decide, by decide +kernel⟩, by decide, by decide⟩ tw_548 tw_549 tw_550 rfl hl.1 (Nat.le_of_ble_eq_true rfl) ⟨by show k + 5 + 0 ≤ 601024; omega, by show n + 2628 + 0 ≤ 7293034; omega⟩ d_LW_law_432 (fun v h9 hp => ?_)
    obtain ⟨rfl, rfl⟩ := hp
    refine g_widen (k' := k + 5) (n' := n + 2628) (by show k + 5 + 0 ≤ k + 5; omega) (by show n + 2628 + 0 ≤ n + 2628; omega) ?_
    show G D s0 p l e _ s0 m _ below meth c h8 _ _ _ (F0 m 435 ls [.int (iZ (2))])
    refine g_1 (fun w => lv_iload X.1 X.2.1 d_LW_law_435 (lv_at hl 1 rfl) w) ?_
    refine g_icmp_eq (tgt := 442) X (by first | exact ⟨by omega, by omega⟩ | exact hRok | exact hRlk | exact hxs _) (by first | exact ⟨by omega, by omega⟩ | exact hRok | exact hRlk | exact hxs _) d_LW_law_437 (by decide) (fun c437 => ?_) (fun c437 => ?_)
    · refine g_1 (fun w => lv_iload X.1 X.2.1 d_LW_law_442 (lv_at hl 1 rfl) w) ?_
      refine g_if_ne (tgt := 459) X (by first | exact ⟨by omega, by omega⟩ | exact hRok | exact hRlk | exact hxs _) d_LW_law_444 (by decide) (fun c444 => ?_) (fun c444 => ?_)
      · refine g_goto (tgt := 666) X d_LW_law_459 (by decide) ?_
        exact kont h8 ls ⟨A, bs, Y, ys, pn, tb, _, g0, hx, hm, fo, hI.t⟩ (lv_sub hl [2, 3, 4, 5, 6] rfl)
      · exact absurd c444 (by decide)
    · exact absurd c437 (by decide)

set_option maxHeartbeats 4000000 in
set_option maxRecDepth 100000 in
theorem law_7 {D : va_G} {s0 : State} {p : Program} {l : Launch} {e : Env} {m : MethodId} {below : List Frame} {meth : Method} {c : Code} {b L x a o i k n : Nat} {xs : Nat → Int} {h : gH} {ls : Array Slot} (B0 : gB D s0) (hfl : l.flags = flags0) (X : gX D s0 "LayerBudgetsLaw" code 8 ret p s0 m meth c) (hkn : k + 5 ≤ 601024 ∧ n + 2628 ≤ 7293034) (hi : i + 5 ≤ L) (hL : L ≤ 2560) (hxs : ∀ j, i_ok (xs j)) (hX : scrX s0 b L xs) (hS : lawS D h x a o)
    (kont : ∀ (h' : gH) (ls' : Array Slot), lawS D h' x a o → lv_has ls' 8 [(4, .int (iZ i)), (3, .ref o), (2, .ref a), (1, .ref x), (0, .ref b)] → GL D s0 p l e m below meth c b h' (k + 5) (n + 2628) (F0 m 666 ls' []))
    (hl : lv_has ls 8 [(4, .int (iZ i)), (3, .ref o), (2, .ref a), (1, .ref x), (0, .ref b)]) : GL D s0 p l e m below meth c b h k n (F0 m 475 ls []) := by
  obtain ⟨A, bs, Y, ys, pn, tb, M, g0, hx, hm, fo, hI⟩ := hS
  have hpn := hI.pn
  obtain ⟨I1, I2, I3, ⟨I4, I5⟩, I6, I7, I8, I9⟩ := id hI
  obtain ⟨hk1, hk2⟩ := id hkn
  have hAl : A.length ≤ 1024 := hpn.2.2.1
  have hYl : Y.length ≤ 64 := hpn.2.2.2
  have hbo : ∀ i, i < A.length → okB (bs i) := fun i hi => (I1 i hi).1.1
  obtain ⟨bl, yl, fX, -⟩ := id hx
  obtain ⟨p3, p4, p6, p7, p9, p10, p11, p12, p13, p14, f0, f3, f4, f6, f7, f9, f10, f11, f12, f13, f14⟩ := id hm
  refine g_1 (fun w => lv_aload_n X.1 X.2.1 d_LW_law_475 rfl (lv_at hl 3 rfl) w) ?_
  refine g_1 (fun w => lv_aload_n X.1 X.2.1 d_LW_law_476 rfl (lv_at hl 4 rfl) w) ?_
  refine g_1 (fun w => lv_iload X.1 X.2.1 d_LW_law_477 (lv_at hl 0 rfl) w) ?_
  refine g_1 (fun w => lv_iconst (v := iZ 1) X.1 X.2.1 d_LW_law_479 rfl w) ?_
  refine g_iadd X d_LW_law_480 ?_
  refine g_sld X hX (i + 1) (by omega) (by omega) (by omega) d_LW_law_481 ?_
  refine g_1 (fun w => lv_aload_n X.1 X.2.1 d_LW_law_482 rfl (lv_at hl 4 rfl) w) ?_
  refine g_1 (fun w => lv_iload X.1 X.2.1 d_LW_law_483 (lv_at hl 0 rfl) w) ?_
  refine g_1 (fun w => lv_iconst (v := iZ 2) X.1 X.2.1 d_LW_law_485 rfl w) ?_
  refine g_iadd X d_LW_law_486 ?_
  refine g_sld X hX (i + 2) (by omega) (by omega) (by omega) d_LW_law_487 ?_
  refine g_1 (fun w => lv_aload_n X.1 X.2.1 d_LW_law_488 rfl (lv_at hl 1 rfl) w) ?_
  refine g_callSW (na := 4) X (c_LW_cut B0 hfl hx hAl hYl hbo (fun j hj => (I8 j hj).1) (fun j b hj hb => (I8 j hj).2.2.2.2 b hb) (hxs _) (hxs _) fo) rfl ⟨⟨tw_471, tw_0⟩, ⟨by decide, by decide, by decide +kernel⟩, by decide, by decide⟩ tw_469 tw_470 rfl hl.1 (Nat.le_of_ble_eq_true rfl) ⟨by show k + 1 ≤ 601024; omega, by show n + 6 ≤ 7293034; omega⟩ d_LW_law_489 (fun v h' hp => ?_)
  rcases hp with ⟨rfl, R, ⟨⟨yj, bi, hyj, hbi, hyl, hbl, hRe⟩, hx⟩, fo, hkO⟩ | ⟨rfl, hbad, rfl⟩ | ⟨rfl, hbad, rfl⟩
  · have hRok : i_ok R := by rw [hRe]; exact (I8 yj hyl).2.2.2.2 bi hbl
    have hRlk : l_ok R := by obtain ⟨q1, q2⟩ := hRok; exact ⟨by omega, by omega⟩
    have hm := kp_LO_MD hm hkO
    obtain ⟨bl, yl, fX, -⟩ := id hx
    obtain ⟨p3, p4, p6, p7, p9, p10, p11, p12, p13, p14, f0, f3, f4, f6, f7, f9, f10, f11, f12, f13, f14⟩ := id hm
    refine g_widen (k' := k + 5) (n' := n + 2628) (by show k + 1 ≤ k + 5; omega) (by show n + 6 ≤ n + 2628; omega) ?_
    show G D s0 p l e _ s0 m _ below meth c h' _ _ _ (F0 m 492 ls [.int (iZ (0))])
    refine g_s (fun kk => lv_istore (lv' := [(5, .int (iZ (0))), (4, .int (iZ (i))), (3, .ref o), (2, .ref a), (1, .ref x), (0, .ref b)]) X.1 X.2.1 d_LW_law_492 hl (by decide) rfl kk) (fun ls hl => ?_)
    refine g_1 (fun w => lv_aload_n X.1 X.2.1 d_LW_law_494 rfl (lv_at hl 3 rfl) w) ?_
    refine g_1 (fun w => lv_aload_n X.1 X.2.1 d_LW_law_495 rfl (lv_at hl 5 rfl) w) ?_
    refine g_1 (fun w => lv_iload X.1 X.2.1 d_LW_law_496 (lv_at hl 1 rfl) w) ?_
    refine g_1 (fun w => lv_iconst (v := iZ 1) X.1 X.2.1 d_LW_law_498 rfl w) ?_
    refine g_iadd X d_LW_law_499 ?_
    refine g_sld X hX (i + 1) (by omega) (by omega) (by omega) d_LW_law_500 ?_
    refine g_1 (fun w => lv_aload_n X.1 X.2.1 d_LW_law_501 rfl (lv_at hl 5 rfl) w) ?_
    refine g_1 (fun w => lv_iload X.1 X.2.1 d_LW_law_502 (lv_at hl 1 rfl) w) ?_
    refine g_1 (fun w => lv_iconst (v := iZ 2) X.1 X.2.1 d_LW_law_504 rfl w) ?_
    refine g_iadd X d_LW_law_505 ?_
    refine g_sld X hX (i + 2) (by omega) (by omega) (by omega) d_LW_law_506 ?_
    refine g_callV (na := 2) X (c_MD_cut B0 hm I2 I1 I3 (hxs _) (hxs _)) rfl f0 rfl ⟨⟨tw_641, tw_5⟩, ⟨by decide, by decide, by decide +kernel⟩, by decide, by decide⟩ tw_638 tw_639 tw_640 rfl hl.1 (Nat.le_of_ble_eq_true rfl) ⟨by show k + 5 + 0 ≤ 601024; omega, by show n + 2628 + 0 ≤ 7293034; omega⟩ d_LW_law_507 (fun v h8 hp => ?_)
    obtain ⟨t, r, rfl, hm8, hkM, hd⟩ := hp
    obtain ⟨rfl, hr9⟩ : t = 0 ∧ r = R := by
      rcases hd with ⟨z1, z2⟩ | ⟨z1, z2, z3⟩ | ⟨j2, b2, zj, zb, zy, zl, z3, z4⟩
      · exfalso; omega
      · exfalso; omega
      · obtain rfl : b2 = bi := by omega
        obtain rfl : j2 = yj := by omega
        exact ⟨z3, z4.trans hRe.symm⟩
    obtain rfl := hr9.symm
    have hm := hm8
    have hx := kp_MD_LB hx hkM
    have fo := kp_oMD hkM fo
    obtain ⟨bl, yl, fX, -⟩ := id hx
    obtain ⟨p3, p4, p6, p7, p9, p10, p11, p12, p13, p14, f0, f3, f4, f6, f7, f9, f10, f11, f12, f13, f14⟩ := id hm
    refine g_widen (k' := k + 5) (n' := n + 2628) (by show k + 5 + 0 ≤ k + 5; omega) (by show n + 2628 + 0 ≤ n + 2628; omega) ?_
    show G D s0 p l e _ s0 m _ below meth c h8 _ _ _ (F0 m 510 ls [.int (iZ (R))])
    refine g_s (fun kk => lv_istore (lv' := [(6, .int (iZ (R))), (5, .int (iZ (0))), (4, .int (iZ (i))), (3, .ref o), (2, .ref a), (1, .ref x), (0, .ref b)]) X.1 X.2.1 d_LW_law_510 hl (by decide) rfl kk) (fun ls hl => ?_)
    refine g_1 (fun w => lv_aload_n X.1 X.2.1 d_LW_law_512 rfl (lv_at hl 4 rfl) w) ?_
    refine g_callV (na := 0) X (c_MD_thrown B0 hm) rfl f0 rfl ⟨⟨tw_551, tw_5⟩, ⟨by decide, by decide, by decide +kernel⟩, by decide, by decide⟩ tw_548 tw_549 tw_550 rfl hl.1 (Nat.le_of_ble_eq_true rfl) ⟨by show k + 5 + 0 ≤ 601024; omega, by show n + 2628 + 0 ≤ 7293034; omega⟩ d_LW_law_513 (fun v h9 hp => ?_)
    obtain ⟨rfl, rfl⟩ := hp
    refine g_widen (k' := k + 5) (n' := n + 2628) (by show k + 5 + 0 ≤ k + 5; omega) (by show n + 2628 + 0 ≤ n + 2628; omega) ?_
    show G D s0 p l e _ s0 m _ below meth c h8 _ _ _ (F0 m 516 ls [.int (iZ (0))])
    refine g_1 (fun w => lv_iload X.1 X.2.1 d_LW_law_516 (lv_at hl 1 rfl) w) ?_
    refine g_icmp_eq (tgt := 523) X (by first | exact ⟨by omega, by omega⟩ | exact hRok | exact hRlk | exact hxs _) (by first | exact ⟨by omega, by omega⟩ | exact hRok | exact hRlk | exact hxs _) d_LW_law_518 (by decide) (fun c518 => ?_) (fun c518 => ?_)
    · refine g_1 (fun w => lv_iload X.1 X.2.1 d_LW_law_523 (lv_at hl 1 rfl) w) ?_
      refine g_if_ne (tgt := 540) X (by first | exact ⟨by omega, by omega⟩ | exact hRok | exact hRlk | exact hxs _) d_LW_law_525 (by decide) (fun c525 => ?_) (fun c525 => ?_)
      · exact absurd c525 (by decide)
      · refine g_1 (fun w => lv_aload_n X.1 X.2.1 d_LW_law_528 rfl (lv_at hl 3 rfl) w) ?_
        refine g_1 (fun w => lv_iconst (v := iZ 0) X.1 X.2.1 d_LW_law_529 rfl w) ?_
        refine g_lld X fo (0) (rfl) (by omega) (by omega) d_LW_law_530 ?_
        refine g_tl (congrArg lZ (show ((va_up (g0) (0) (R)) 0 : Int) = R from va_up_self _ _ _)) ?_
        refine g_1 (fun w => lv_iload X.1 X.2.1 d_LW_law_531 (lv_at hl 0 rfl) w) ?_
        refine g_i2l X (by first | exact ⟨by omega, by omega⟩ | exact hRok | exact hRlk | exact hxs _) d_LW_law_533 ?_
        refine g_lcmp X (by first | exact ⟨by omega, by omega⟩ | exact hRok | exact hRlk | exact hxs _) (by first | exact ⟨by omega, by omega⟩ | exact hRok | exact hRlk | exact hxs _) d_LW_law_534 ?_
        refine g_if_eq (tgt := 540) X (cmpZ_ok _ _) d_LW_law_535 (by decide) (fun c535 => ?_) (fun c535 => ?_)
        · refine g_goto (tgt := 666) X d_LW_law_540 (by decide) ?_
          exact kont h8 ls ⟨A, bs, Y, ys, pn, tb, _, va_up (g0) (0) (R), hx, hm, fo, hI.t⟩ (lv_sub hl [2, 3, 4, 5, 6] rfl)
        · exact absurd (cmpZ_self _) c535
    · exact absurd c518 (by decide)
  · refine g_widen (k' := k + 5) (n' := n + 2628) (by show k + 1 ≤ k + 5; omega) (by show n + 6 ≤ n + 2628; omega) ?_
    show G D s0 p l e _ s0 m _ below meth c h _ _ _ (F0 m 492 ls [.int (iZ (1))])
    refine g_s (fun kk => lv_istore (lv' := [(5, .int (iZ (1))), (4, .int (iZ (i))), (3, .ref o), (2, .ref a), (1, .ref x), (0, .ref b)]) X.1 X.2.1 d_LW_law_492 hl (by decide) rfl kk) (fun ls hl => ?_)
    refine g_1 (fun w => lv_aload_n X.1 X.2.1 d_LW_law_494 rfl (lv_at hl 3 rfl) w) ?_
    refine g_1 (fun w => lv_aload_n X.1 X.2.1 d_LW_law_495 rfl (lv_at hl 5 rfl) w) ?_
    refine g_1 (fun w => lv_iload X.1 X.2.1 d_LW_law_496 (lv_at hl 1 rfl) w) ?_
    refine g_1 (fun w => lv_iconst (v := iZ 1) X.1 X.2.1 d_LW_law_498 rfl w) ?_
    refine g_iadd X d_LW_law_499 ?_
    refine g_sld X hX (i + 1) (by omega) (by omega) (by omega) d_LW_law_500 ?_
    refine g_1 (fun w => lv_aload_n X.1 X.2.1 d_LW_law_501 rfl (lv_at hl 5 rfl) w) ?_
    refine g_1 (fun w => lv_iload X.1 X.2.1 d_LW_law_502 (lv_at hl 1 rfl) w) ?_
    refine g_1 (fun w => lv_iconst (v := iZ 2) X.1 X.2.1 d_LW_law_504 rfl w) ?_
    refine g_iadd X d_LW_law_505 ?_
    refine g_sld X hX (i + 2) (by omega) (by omega) (by omega) d_LW_law_506 ?_
    refine g_callV (na := 2) X (c_MD_cut B0 hm I2 I1 I3 (hxs _) (hxs _)) rfl f0 rfl ⟨⟨tw_641, tw_5⟩, ⟨by decide, by decide, by decide +kernel⟩, by decide, by decide⟩ tw_638 tw_639 tw_640 rfl hl.1 (Nat.le_of_ble_eq_true rfl) ⟨by show k + 5 + 0 ≤ 601024; omega, by show n + 2628 + 0 ≤ 7293034; omega⟩ d_LW_law_507 (fun v h8 hp => ?_)
    obtain ⟨t, r, rfl, hm8, hkM, hd⟩ := hp
    obtain rfl : t = 1 := by
      rcases hd with ⟨z1, z2⟩ | ⟨z1, z2, z3⟩ | ⟨j2, b2, zj, zb, zy, zl, z3, z4⟩
      · exact z2
      · exact absurd z1 hbad
      · exfalso; omega
    have hm := hm8
    have hx := kp_MD_LB hx hkM
    have fo := kp_oMD hkM fo
    obtain ⟨bl, yl, fX, -⟩ := id hx
    obtain ⟨p3, p4, p6, p7, p9, p10, p11, p12, p13, p14, f0, f3, f4, f6, f7, f9, f10, f11, f12, f13, f14⟩ := id hm
    refine g_widen (k' := k + 5) (n' := n + 2628) (by show k + 5 + 0 ≤ k + 5; omega) (by show n + 2628 + 0 ≤ n + 2628; omega) ?_
    show G D s0 p l e _ s0 m _ below meth c h8 _ _ _ (F0 m 510 ls [.int (iZ (r))])
    refine g_s (fun kk => lv_istore (lv' := [(6, .int (iZ (r))), (5, .int (iZ (1))), (4, .int (iZ (i))), (3, .ref o), (2, .ref a), (1, .ref x), (0, .ref b)]) X.1 X.2.1 d_LW_law_510 hl (by decide) rfl kk) (fun ls hl => ?_)
    refine g_1 (fun w => lv_aload_n X.1 X.2.1 d_LW_law_512 rfl (lv_at hl 4 rfl) w) ?_
    refine g_callV (na := 0) X (c_MD_thrown B0 hm) rfl f0 rfl ⟨⟨tw_551, tw_5⟩, ⟨by decide, by decide, by decide +kernel⟩, by decide, by decide⟩ tw_548 tw_549 tw_550 rfl hl.1 (Nat.le_of_ble_eq_true rfl) ⟨by show k + 5 + 0 ≤ 601024; omega, by show n + 2628 + 0 ≤ 7293034; omega⟩ d_LW_law_513 (fun v h9 hp => ?_)
    obtain ⟨rfl, rfl⟩ := hp
    refine g_widen (k' := k + 5) (n' := n + 2628) (by show k + 5 + 0 ≤ k + 5; omega) (by show n + 2628 + 0 ≤ n + 2628; omega) ?_
    show G D s0 p l e _ s0 m _ below meth c h8 _ _ _ (F0 m 516 ls [.int (iZ (1))])
    refine g_1 (fun w => lv_iload X.1 X.2.1 d_LW_law_516 (lv_at hl 1 rfl) w) ?_
    refine g_icmp_eq (tgt := 523) X (by first | exact ⟨by omega, by omega⟩ | exact hRok | exact hRlk | exact hxs _) (by first | exact ⟨by omega, by omega⟩ | exact hRok | exact hRlk | exact hxs _) d_LW_law_518 (by decide) (fun c518 => ?_) (fun c518 => ?_)
    · refine g_1 (fun w => lv_iload X.1 X.2.1 d_LW_law_523 (lv_at hl 1 rfl) w) ?_
      refine g_if_ne (tgt := 540) X (by first | exact ⟨by omega, by omega⟩ | exact hRok | exact hRlk | exact hxs _) d_LW_law_525 (by decide) (fun c525 => ?_) (fun c525 => ?_)
      · refine g_goto (tgt := 666) X d_LW_law_540 (by decide) ?_
        exact kont h8 ls ⟨A, bs, Y, ys, pn, tb, _, g0, hx, hm, fo, hI.t⟩ (lv_sub hl [2, 3, 4, 5, 6] rfl)
      · exact absurd c525 (by decide)
    · exact absurd c518 (by decide)
  · refine g_widen (k' := k + 5) (n' := n + 2628) (by show k + 1 ≤ k + 5; omega) (by show n + 6 ≤ n + 2628; omega) ?_
    show G D s0 p l e _ s0 m _ below meth c h _ _ _ (F0 m 492 ls [.int (iZ (2))])
    refine g_s (fun kk => lv_istore (lv' := [(5, .int (iZ (2))), (4, .int (iZ (i))), (3, .ref o), (2, .ref a), (1, .ref x), (0, .ref b)]) X.1 X.2.1 d_LW_law_492 hl (by decide) rfl kk) (fun ls hl => ?_)
    refine g_1 (fun w => lv_aload_n X.1 X.2.1 d_LW_law_494 rfl (lv_at hl 3 rfl) w) ?_
    refine g_1 (fun w => lv_aload_n X.1 X.2.1 d_LW_law_495 rfl (lv_at hl 5 rfl) w) ?_
    refine g_1 (fun w => lv_iload X.1 X.2.1 d_LW_law_496 (lv_at hl 1 rfl) w) ?_
    refine g_1 (fun w => lv_iconst (v := iZ 1) X.1 X.2.1 d_LW_law_498 rfl w) ?_
    refine g_iadd X d_LW_law_499 ?_
    refine g_sld X hX (i + 1) (by omega) (by omega) (by omega) d_LW_law_500 ?_
    refine g_1 (fun w => lv_aload_n X.1 X.2.1 d_LW_law_501 rfl (lv_at hl 5 rfl) w) ?_
    refine g_1 (fun w => lv_iload X.1 X.2.1 d_LW_law_502 (lv_at hl 1 rfl) w) ?_
    refine g_1 (fun w => lv_iconst (v := iZ 2) X.1 X.2.1 d_LW_law_504 rfl w) ?_
    refine g_iadd X d_LW_law_505 ?_
    refine g_sld X hX (i + 2) (by omega) (by omega) (by omega) d_LW_law_506 ?_
    refine g_callV (na := 2) X (c_MD_cut B0 hm I2 I1 I3 (hxs _) (hxs _)) rfl f0 rfl ⟨⟨tw_641, tw_5⟩, ⟨by decide, by decide, by decide +kernel⟩, by decide, by decide⟩ tw_638 tw_639 tw_640 rfl hl.1 (Nat.le_of_ble_eq_true rfl) ⟨by show k + 5 + 0 ≤ 601024; omega, by show n + 2628 + 0 ≤ 7293034; omega⟩ d_LW_law_507 (fun v h8 hp => ?_)
    obtain ⟨t, r, rfl, hm8, hkM, hd⟩ := hp
    obtain rfl : t = 2 := by
      obtain ⟨q1, q2⟩ := hbad
      rcases hd with ⟨z1, z2⟩ | ⟨z1, z2, z3⟩ | ⟨j2, b2, zj, zb, zy, zl, z3, z4⟩
      · exact absurd q1 z1
      · exact z3
      · exfalso; omega
    have hm := hm8
    have hx := kp_MD_LB hx hkM
    have fo := kp_oMD hkM fo
    obtain ⟨bl, yl, fX, -⟩ := id hx
    obtain ⟨p3, p4, p6, p7, p9, p10, p11, p12, p13, p14, f0, f3, f4, f6, f7, f9, f10, f11, f12, f13, f14⟩ := id hm
    refine g_widen (k' := k + 5) (n' := n + 2628) (by show k + 5 + 0 ≤ k + 5; omega) (by show n + 2628 + 0 ≤ n + 2628; omega) ?_
    show G D s0 p l e _ s0 m _ below meth c h8 _ _ _ (F0 m 510 ls [.int (iZ (r))])
    refine g_s (fun kk => lv_istore (lv' := [(6, .int (iZ (r))), (5, .int (iZ (2))), (4, .int (iZ (i))), (3, .ref o), (2, .ref a), (1, .ref x), (0, .ref b)]) X.1 X.2.1 d_LW_law_510 hl (by decide) rfl kk) (fun ls hl => ?_)
    refine g_1 (fun w => lv_aload_n X.1 X.2.1 d_LW_law_512 rfl (lv_at hl 4 rfl) w) ?_
    refine g_callV (na := 0) X (c_MD_thrown B0 hm) rfl f0 rfl ⟨⟨tw_551, tw_5⟩, ⟨by decide, by decide, by decide +kernel⟩, by decide, by decide⟩ tw_548 tw_549 tw_550 rfl hl.1 (Nat.le_of_ble_eq_true rfl) ⟨by show k + 5 + 0 ≤ 601024; omega, by show n + 2628 + 0 ≤ 7293034; omega⟩ d_LW_law_513 (fun v h9 hp => ?_)
    obtain ⟨rfl, rfl⟩ := hp
    refine g_widen (k' := k + 5) (n' := n + 2628) (by show k + 5 + 0 ≤ k + 5; omega) (by show n + 2628 + 0 ≤ n + 2628; omega) ?_
    show G D s0 p l e _ s0 m _ below meth c h8 _ _ _ (F0 m 516 ls [.int (iZ (2))])
    refine g_1 (fun w => lv_iload X.1 X.2.1 d_LW_law_516 (lv_at hl 1 rfl) w) ?_
    refine g_icmp_eq (tgt := 523) X (by first | exact ⟨by omega, by omega⟩ | exact hRok | exact hRlk | exact hxs _) (by first | exact ⟨by omega, by omega⟩ | exact hRok | exact hRlk | exact hxs _) d_LW_law_518 (by decide) (fun c518 => ?_) (fun c518 => ?_)
    · refine g_1 (fun w => lv_iload X.1 X.2.1 d_LW_law_523 (lv_at hl 1 rfl) w) ?_
      refine g_if_ne (tgt := 540) X (by first | exact ⟨by omega, by omega⟩ | exact hRok | exact hRlk | exact hxs _) d_LW_law_525 (by decide) (fun c525 => ?_) (fun c525 => ?_)
      · refine g_goto (tgt := 666) X d_LW_law_540 (by decide) ?_
        exact kont h8 ls ⟨A, bs, Y, ys, pn, tb, _, g0, hx, hm, fo, hI.t⟩ (lv_sub hl [2, 3, 4, 5, 6] rfl)
      · exact absurd c525 (by decide)
    · exact absurd c518 (by decide)

set_option maxHeartbeats 4000000 in
set_option maxRecDepth 100000 in
theorem law_8 {D : va_G} {s0 : State} {p : Program} {l : Launch} {e : Env} {m : MethodId} {below : List Frame} {meth : Method} {c : Code} {b L x a o i k n : Nat} {xs : Nat → Int} {h : gH} {ls : Array Slot} (B0 : gB D s0) (hfl : l.flags = flags0) (X : gX D s0 "LayerBudgetsLaw" code 8 ret p s0 m meth c) (hkn : k + 5 ≤ 601024 ∧ n + 2628 ≤ 7293034) (hi : i + 5 ≤ L) (hL : L ≤ 2560) (hxs : ∀ j, i_ok (xs j)) (hX : scrX s0 b L xs) (hS : lawS D h x a o)
    (kont : ∀ (h' : gH) (ls' : Array Slot), lawS D h' x a o → lv_has ls' 8 [(4, .int (iZ i)), (3, .ref o), (2, .ref a), (1, .ref x), (0, .ref b)] → GL D s0 p l e m below meth c b h' (k + 5) (n + 2628) (F0 m 666 ls' []))
    (hl : lv_has ls 8 [(4, .int (iZ i)), (3, .ref o), (2, .ref a), (1, .ref x), (0, .ref b)]) : GL D s0 p l e m below meth c b h k n (F0 m 543 ls []) := by
  obtain ⟨A, bs, Y, ys, pn, tb, M, g0, hx, hm, fo, hI⟩ := hS
  have hpn := hI.pn
  obtain ⟨I1, I2, I3, ⟨I4, I5⟩, I6, I7, I8, I9⟩ := id hI
  obtain ⟨hk1, hk2⟩ := id hkn
  have hAl : A.length ≤ 1024 := hpn.2.2.1
  have hYl : Y.length ≤ 64 := hpn.2.2.2
  have hbo : ∀ i, i < A.length → okB (bs i) := fun i hi => (I1 i hi).1.1
  obtain ⟨bl, yl, fX, -⟩ := id hx
  obtain ⟨p3, p4, p6, p7, p9, p10, p11, p12, p13, p14, f0, f3, f4, f6, f7, f9, f10, f11, f12, f13, f14⟩ := id hm
  refine g_1 (fun w => lv_aload_n X.1 X.2.1 d_LW_law_543 rfl (lv_at hl 3 rfl) w) ?_
  refine g_1 (fun w => lv_aload_n X.1 X.2.1 d_LW_law_544 rfl (lv_at hl 4 rfl) w) ?_
  refine g_1 (fun w => lv_iload X.1 X.2.1 d_LW_law_545 (lv_at hl 0 rfl) w) ?_
  refine g_1 (fun w => lv_iconst (v := iZ 1) X.1 X.2.1 d_LW_law_547 rfl w) ?_
  refine g_iadd X d_LW_law_548 ?_
  refine g_sld X hX (i + 1) (by omega) (by omega) (by omega) d_LW_law_549 ?_
  refine g_1 (fun w => lv_aload_n X.1 X.2.1 d_LW_law_550 rfl (lv_at hl 1 rfl) w) ?_
  refine g_callSW (na := 3) X (c_LW_total B0 hfl hx hAl hYl (fun j hj => (I8 j hj).2.1) (hxs _) fo) rfl ⟨⟨tw_483, tw_0⟩, ⟨by decide, by decide, by decide +kernel⟩, by decide, by decide⟩ tw_481 tw_482 rfl hl.1 (Nat.le_of_ble_eq_true rfl) ⟨by show k + 1 ≤ 601024; omega, by show n + 6 ≤ 7293034; omega⟩ d_LW_law_551 (fun v h' hp => ?_)
  rcases hp with ⟨rfl, R, ⟨⟨yj, hyj, hyl, hRe⟩, hx⟩, fo, hkO⟩ | ⟨rfl, hbad, rfl⟩
  · have hRok : i_ok R := by rw [hRe]; exact (I8 yj hyl).2.1
    have hRlk : l_ok R := by obtain ⟨q1, q2⟩ := hRok; exact ⟨by omega, by omega⟩
    have hm := kp_LO_MD hm hkO
    obtain ⟨bl, yl, fX, -⟩ := id hx
    obtain ⟨p3, p4, p6, p7, p9, p10, p11, p12, p13, p14, f0, f3, f4, f6, f7, f9, f10, f11, f12, f13, f14⟩ := id hm
    refine g_widen (k' := k + 5) (n' := n + 2628) (by show k + 1 ≤ k + 5; omega) (by show n + 6 ≤ n + 2628; omega) ?_
    show G D s0 p l e _ s0 m _ below meth c h' _ _ _ (F0 m 554 ls [.int (iZ (0))])
    refine g_s (fun kk => lv_istore (lv' := [(5, .int (iZ (0))), (4, .int (iZ (i))), (3, .ref o), (2, .ref a), (1, .ref x), (0, .ref b)]) X.1 X.2.1 d_LW_law_554 hl (by decide) rfl kk) (fun ls hl => ?_)
    refine g_1 (fun w => lv_aload_n X.1 X.2.1 d_LW_law_556 rfl (lv_at hl 3 rfl) w) ?_
    refine g_1 (fun w => lv_aload_n X.1 X.2.1 d_LW_law_557 rfl (lv_at hl 5 rfl) w) ?_
    refine g_1 (fun w => lv_iload X.1 X.2.1 d_LW_law_558 (lv_at hl 1 rfl) w) ?_
    refine g_1 (fun w => lv_iconst (v := iZ 1) X.1 X.2.1 d_LW_law_560 rfl w) ?_
    refine g_iadd X d_LW_law_561 ?_
    refine g_sld X hX (i + 1) (by omega) (by omega) (by omega) d_LW_law_562 ?_
    refine g_callV (na := 1) X (c_MD_total B0 hm I2 I1 I3 (hxs _)) rfl f0 rfl ⟨⟨tw_645, tw_5⟩, ⟨by decide, by decide, by decide +kernel⟩, by decide, by decide⟩ tw_642 tw_643 tw_644 rfl hl.1 (Nat.le_of_ble_eq_true rfl) ⟨by show k + 5 + 0 ≤ 601024; omega, by show n + 2628 + 0 ≤ 7293034; omega⟩ d_LW_law_563 (fun v h8 hp => ?_)
    obtain ⟨t, r, rfl, hm8, hkM, hd⟩ := hp
    obtain ⟨rfl, hr9⟩ : t = 0 ∧ r = R := by
      rcases hd with ⟨z1, z2⟩ | ⟨j2, zj, zy, z3, z4⟩
      · exfalso; omega
      · obtain rfl : j2 = yj := by omega
        exact ⟨z3, z4.trans hRe.symm⟩
    obtain rfl := hr9.symm
    have hm := hm8
    have hx := kp_MD_LB hx hkM
    have fo := kp_oMD hkM fo
    obtain ⟨bl, yl, fX, -⟩ := id hx
    obtain ⟨p3, p4, p6, p7, p9, p10, p11, p12, p13, p14, f0, f3, f4, f6, f7, f9, f10, f11, f12, f13, f14⟩ := id hm
    refine g_widen (k' := k + 5) (n' := n + 2628) (by show k + 5 + 0 ≤ k + 5; omega) (by show n + 2628 + 0 ≤ n + 2628; omega) ?_
    show G D s0 p l e _ s0 m _ below meth c h8 _ _ _ (F0 m 566 ls [.int (iZ (R))])
    refine g_s (fun kk => lv_istore (lv' := [(6, .int (iZ (R))), (5, .int (iZ (0))), (4, .int (iZ (i))), (3, .ref o), (2, .ref a), (1, .ref x), (0, .ref b)]) X.1 X.2.1 d_LW_law_566 hl (by decide) rfl kk) (fun ls hl => ?_)
    refine g_1 (fun w => lv_aload_n X.1 X.2.1 d_LW_law_568 rfl (lv_at hl 4 rfl) w) ?_
    refine g_callV (na := 0) X (c_MD_thrown B0 hm) rfl f0 rfl ⟨⟨tw_551, tw_5⟩, ⟨by decide, by decide, by decide +kernel⟩, by decide, by decide⟩ tw_548 tw_549 tw_550 rfl hl.1 (Nat.le_of_ble_eq_true rfl) ⟨by show k + 5 + 0 ≤ 601024; omega, by show n + 2628 + 0 ≤ 7293034; omega⟩ d_LW_law_569 (fun v h9 hp => ?_)
    obtain ⟨rfl, rfl⟩ := hp
    refine g_widen (k' := k + 5) (n' := n + 2628) (by show k + 5 + 0 ≤ k + 5; omega) (by show n + 2628 + 0 ≤ n + 2628; omega) ?_
    show G D s0 p l e _ s0 m _ below meth c h8 _ _ _ (F0 m 572 ls [.int (iZ (0))])
    refine g_1 (fun w => lv_iload X.1 X.2.1 d_LW_law_572 (lv_at hl 1 rfl) w) ?_
    refine g_icmp_eq (tgt := 579) X (by first | exact ⟨by omega, by omega⟩ | exact hRok | exact hRlk | exact hxs _) (by first | exact ⟨by omega, by omega⟩ | exact hRok | exact hRlk | exact hxs _) d_LW_law_574 (by decide) (fun c574 => ?_) (fun c574 => ?_)
    · refine g_1 (fun w => lv_iload X.1 X.2.1 d_LW_law_579 (lv_at hl 1 rfl) w) ?_
      refine g_if_ne (tgt := 596) X (by first | exact ⟨by omega, by omega⟩ | exact hRok | exact hRlk | exact hxs _) d_LW_law_581 (by decide) (fun c581 => ?_) (fun c581 => ?_)
      · exact absurd c581 (by decide)
      · refine g_1 (fun w => lv_aload_n X.1 X.2.1 d_LW_law_584 rfl (lv_at hl 3 rfl) w) ?_
        refine g_1 (fun w => lv_iconst (v := iZ 0) X.1 X.2.1 d_LW_law_585 rfl w) ?_
        refine g_lld X fo (0) (rfl) (by omega) (by omega) d_LW_law_586 ?_
        refine g_tl (congrArg lZ (show ((va_up (g0) (0) (R)) 0 : Int) = R from va_up_self _ _ _)) ?_
        refine g_1 (fun w => lv_iload X.1 X.2.1 d_LW_law_587 (lv_at hl 0 rfl) w) ?_
        refine g_i2l X (by first | exact ⟨by omega, by omega⟩ | exact hRok | exact hRlk | exact hxs _) d_LW_law_589 ?_
        refine g_lcmp X (by first | exact ⟨by omega, by omega⟩ | exact hRok | exact hRlk | exact hxs _) (by first | exact ⟨by omega, by omega⟩ | exact hRok | exact hRlk | exact hxs _) d_LW_law_590 ?_
        refine g_if_eq (tgt := 596) X (cmpZ_ok _ _) d_LW_law_591 (by decide) (fun c591 => ?_) (fun c591 => ?_)
        · refine g_goto (tgt := 666) X d_LW_law_596 (by decide) ?_
          exact kont h8 ls ⟨A, bs, Y, ys, pn, tb, _, va_up (g0) (0) (R), hx, hm, fo, hI.t⟩ (lv_sub hl [2, 3, 4, 5, 6] rfl)
        · exact absurd (cmpZ_self _) c591
    · exact absurd c574 (by decide)
  · refine g_widen (k' := k + 5) (n' := n + 2628) (by show k + 1 ≤ k + 5; omega) (by show n + 6 ≤ n + 2628; omega) ?_
    show G D s0 p l e _ s0 m _ below meth c h _ _ _ (F0 m 554 ls [.int (iZ (1))])
    refine g_s (fun kk => lv_istore (lv' := [(5, .int (iZ (1))), (4, .int (iZ (i))), (3, .ref o), (2, .ref a), (1, .ref x), (0, .ref b)]) X.1 X.2.1 d_LW_law_554 hl (by decide) rfl kk) (fun ls hl => ?_)
    refine g_1 (fun w => lv_aload_n X.1 X.2.1 d_LW_law_556 rfl (lv_at hl 3 rfl) w) ?_
    refine g_1 (fun w => lv_aload_n X.1 X.2.1 d_LW_law_557 rfl (lv_at hl 5 rfl) w) ?_
    refine g_1 (fun w => lv_iload X.1 X.2.1 d_LW_law_558 (lv_at hl 1 rfl) w) ?_
    refine g_1 (fun w => lv_iconst (v := iZ 1) X.1 X.2.1 d_LW_law_560 rfl w) ?_
    refine g_iadd X d_LW_law_561 ?_
    refine g_sld X hX (i + 1) (by omega) (by omega) (by omega) d_LW_law_562 ?_
    refine g_callV (na := 1) X (c_MD_total B0 hm I2 I1 I3 (hxs _)) rfl f0 rfl ⟨⟨tw_645, tw_5⟩, ⟨by decide, by decide, by decide +kernel⟩, by decide, by decide⟩ tw_642 tw_643 tw_644 rfl hl.1 (Nat.le_of_ble_eq_true rfl) ⟨by show k + 5 + 0 ≤ 601024; omega, by show n + 2628 + 0 ≤ 7293034; omega⟩ d_LW_law_563 (fun v h8 hp => ?_)
    obtain ⟨t, r, rfl, hm8, hkM, hd⟩ := hp
    obtain rfl : t = 1 := by
      rcases hd with ⟨z1, z2⟩ | ⟨j2, zj, zy, z3, z4⟩
      · exact z2
      · exfalso; omega
    have hm := hm8
    have hx := kp_MD_LB hx hkM
    have fo := kp_oMD hkM fo
    obtain ⟨bl, yl, fX, -⟩ := id hx
    obtain ⟨p3, p4, p6, p7, p9, p10, p11, p12, p13, p14, f0, f3, f4, f6, f7, f9, f10, f11, f12, f13, f14⟩ := id hm
    refine g_widen (k' := k + 5) (n' := n + 2628) (by show k + 5 + 0 ≤ k + 5; omega) (by show n + 2628 + 0 ≤ n + 2628; omega) ?_
    show G D s0 p l e _ s0 m _ below meth c h8 _ _ _ (F0 m 566 ls [.int (iZ (r))])
    refine g_s (fun kk => lv_istore (lv' := [(6, .int (iZ (r))), (5, .int (iZ (1))), (4, .int (iZ (i))), (3, .ref o), (2, .ref a), (1, .ref x), (0, .ref b)]) X.1 X.2.1 d_LW_law_566 hl (by decide) rfl kk) (fun ls hl => ?_)
    refine g_1 (fun w => lv_aload_n X.1 X.2.1 d_LW_law_568 rfl (lv_at hl 4 rfl) w) ?_
    refine g_callV (na := 0) X (c_MD_thrown B0 hm) rfl f0 rfl ⟨⟨tw_551, tw_5⟩, ⟨by decide, by decide, by decide +kernel⟩, by decide, by decide⟩ tw_548 tw_549 tw_550 rfl hl.1 (Nat.le_of_ble_eq_true rfl) ⟨by show k + 5 + 0 ≤ 601024; omega, by show n + 2628 + 0 ≤ 7293034; omega⟩ d_LW_law_569 (fun v h9 hp => ?_)
    obtain ⟨rfl, rfl⟩ := hp
    refine g_widen (k' := k + 5) (n' := n + 2628) (by show k + 5 + 0 ≤ k + 5; omega) (by show n + 2628 + 0 ≤ n + 2628; omega) ?_
    show G D s0 p l e _ s0 m _ below meth c h8 _ _ _ (F0 m 572 ls [.int (iZ (1))])
    refine g_1 (fun w => lv_iload X.1 X.2.1 d_LW_law_572 (lv_at hl 1 rfl) w) ?_
    refine g_icmp_eq (tgt := 579) X (by first | exact ⟨by omega, by omega⟩ | exact hRok | exact hRlk | exact hxs _) (by first | exact ⟨by omega, by omega⟩ | exact hRok | exact hRlk | exact hxs _) d_LW_law_574 (by decide) (fun c574 => ?_) (fun c574 => ?_)
    · refine g_1 (fun w => lv_iload X.1 X.2.1 d_LW_law_579 (lv_at hl 1 rfl) w) ?_
      refine g_if_ne (tgt := 596) X (by first | exact ⟨by omega, by omega⟩ | exact hRok | exact hRlk | exact hxs _) d_LW_law_581 (by decide) (fun c581 => ?_) (fun c581 => ?_)
      · refine g_goto (tgt := 666) X d_LW_law_596 (by decide) ?_
        exact kont h8 ls ⟨A, bs, Y, ys, pn, tb, _, g0, hx, hm, fo, hI.t⟩ (lv_sub hl [2, 3, 4, 5, 6] rfl)
      · exact absurd c581 (by decide)
    · exact absurd c574 (by decide)

set_option maxHeartbeats 4000000 in
set_option maxRecDepth 100000 in
theorem law_9 {D : va_G} {s0 : State} {p : Program} {l : Launch} {e : Env} {m : MethodId} {below : List Frame} {meth : Method} {c : Code} {b L x a o i k n : Nat} {xs : Nat → Int} {h : gH} {ls : Array Slot} (B0 : gB D s0) (hfl : l.flags = flags0) (X : gX D s0 "LayerBudgetsLaw" code 8 ret p s0 m meth c) (hkn : k + 5 ≤ 601024 ∧ n + 2628 ≤ 7293034) (hi : i + 5 ≤ L) (hL : L ≤ 2560) (hxs : ∀ j, i_ok (xs j)) (hX : scrX s0 b L xs) (hS : lawS D h x a o)
    (kont : ∀ (h' : gH) (ls' : Array Slot), lawS D h' x a o → lv_has ls' 8 [(4, .int (iZ i)), (3, .ref o), (2, .ref a), (1, .ref x), (0, .ref b)] → GL D s0 p l e m below meth c b h' (k + 5) (n + 2628) (F0 m 666 ls' []))
    (hl : lv_has ls 8 [(4, .int (iZ i)), (3, .ref o), (2, .ref a), (1, .ref x), (0, .ref b)]) : GL D s0 p l e m below meth c b h k n (F0 m 599 ls []) := by
  obtain ⟨A, bs, Y, ys, pn, tb, M, g0, hx, hm, fo, hI⟩ := hS
  have hpn := hI.pn
  obtain ⟨I1, I2, I3, ⟨I4, I5⟩, I6, I7, I8, I9⟩ := id hI
  obtain ⟨hk1, hk2⟩ := id hkn
  have hAl : A.length ≤ 1024 := hpn.2.2.1
  have hYl : Y.length ≤ 64 := hpn.2.2.2
  have hbo : ∀ i, i < A.length → okB (bs i) := fun i hi => (I1 i hi).1.1
  obtain ⟨bl, yl, fX, -⟩ := id hx
  obtain ⟨p3, p4, p6, p7, p9, p10, p11, p12, p13, p14, f0, f3, f4, f6, f7, f9, f10, f11, f12, f13, f14⟩ := id hm
  refine g_1 (fun w => lv_aload_n X.1 X.2.1 d_LW_law_599 rfl (lv_at hl 3 rfl) w) ?_
  refine g_1 (fun w => lv_aload_n X.1 X.2.1 d_LW_law_600 rfl (lv_at hl 4 rfl) w) ?_
  refine g_1 (fun w => lv_iload X.1 X.2.1 d_LW_law_601 (lv_at hl 0 rfl) w) ?_
  refine g_1 (fun w => lv_iconst (v := iZ 1) X.1 X.2.1 d_LW_law_603 rfl w) ?_
  refine g_iadd X d_LW_law_604 ?_
  refine g_sld X hX (i + 1) (by omega) (by omega) (by omega) d_LW_law_605 ?_
  refine g_1 (fun w => lv_aload_n X.1 X.2.1 d_LW_law_606 rfl (lv_at hl 4 rfl) w) ?_
  refine g_1 (fun w => lv_iload X.1 X.2.1 d_LW_law_607 (lv_at hl 0 rfl) w) ?_
  refine g_1 (fun w => lv_iconst (v := iZ 2) X.1 X.2.1 d_LW_law_609 rfl w) ?_
  refine g_iadd X d_LW_law_610 ?_
  refine g_sld X hX (i + 2) (by omega) (by omega) (by omega) d_LW_law_611 ?_
  refine g_1 (fun w => lv_aload_n X.1 X.2.1 d_LW_law_612 rfl (lv_at hl 1 rfl) w) ?_
  refine g_callSW (na := 4) X (c_LW_threshold B0 hfl hx hAl hYl (fun j hj => (I8 j hj).2.2.1) (hxs _) (hxs _) fo) rfl ⟨⟨tw_490, tw_0⟩, ⟨by decide, by decide, by decide +kernel⟩, by decide, by decide⟩ tw_488 tw_489 rfl hl.1 (Nat.le_of_ble_eq_true rfl) ⟨by show k + 1 ≤ 601024; omega, by show n + 6 ≤ 7293034; omega⟩ d_LW_law_613 (fun v h' hp => ?_)
  rcases hp with ⟨rfl, R, ⟨⟨yj, hzz, hyj, hyl, hRe⟩, hx⟩, fo, hkO⟩ | ⟨rfl, hbad, rfl⟩ | ⟨rfl, hbad, rfl⟩
  · have hRlk : l_ok R := by
      obtain ⟨q1, q2⟩ := (I8 yj hyl).2.2.1
      have q3 := (I8 yj hyl).2.2.2.1
      rw [hRe]
      split
      · exact q3
      · exact ⟨by omega, by omega⟩
    have hm := kp_LO_MD hm hkO
    obtain ⟨bl, yl, fX, -⟩ := id hx
    obtain ⟨p3, p4, p6, p7, p9, p10, p11, p12, p13, p14, f0, f3, f4, f6, f7, f9, f10, f11, f12, f13, f14⟩ := id hm
    refine g_widen (k' := k + 5) (n' := n + 2628) (by show k + 1 ≤ k + 5; omega) (by show n + 6 ≤ n + 2628; omega) ?_
    show G D s0 p l e _ s0 m _ below meth c h' _ _ _ (F0 m 616 ls [.int (iZ (0))])
    refine g_s (fun kk => lv_istore (lv' := [(5, .int (iZ (0))), (4, .int (iZ (i))), (3, .ref o), (2, .ref a), (1, .ref x), (0, .ref b)]) X.1 X.2.1 d_LW_law_616 hl (by decide) rfl kk) (fun ls hl => ?_)
    refine g_1 (fun w => lv_aload_n X.1 X.2.1 d_LW_law_618 rfl (lv_at hl 3 rfl) w) ?_
    refine g_1 (fun w => lv_aload_n X.1 X.2.1 d_LW_law_619 rfl (lv_at hl 5 rfl) w) ?_
    refine g_1 (fun w => lv_iload X.1 X.2.1 d_LW_law_620 (lv_at hl 1 rfl) w) ?_
    refine g_1 (fun w => lv_iconst (v := iZ 1) X.1 X.2.1 d_LW_law_622 rfl w) ?_
    refine g_iadd X d_LW_law_623 ?_
    refine g_sld X hX (i + 1) (by omega) (by omega) (by omega) d_LW_law_624 ?_
    refine g_1 (fun w => lv_aload_n X.1 X.2.1 d_LW_law_625 rfl (lv_at hl 5 rfl) w) ?_
    refine g_1 (fun w => lv_iload X.1 X.2.1 d_LW_law_626 (lv_at hl 1 rfl) w) ?_
    refine g_1 (fun w => lv_iconst (v := iZ 2) X.1 X.2.1 d_LW_law_628 rfl w) ?_
    refine g_iadd X d_LW_law_629 ?_
    refine g_sld X hX (i + 2) (by omega) (by omega) (by omega) d_LW_law_630 ?_
    refine g_callV (na := 2) X (c_MD_threshold B0 hm I2 I1 I3 (fun j hj => (I8 j hj).2.2.1) (hxs _) (hxs _)) rfl f0 rfl ⟨⟨tw_649, tw_5⟩, ⟨by decide, by decide, by decide +kernel⟩, by decide, by decide⟩ tw_646 tw_647 tw_648 rfl hl.1 (Nat.le_of_ble_eq_true rfl) ⟨by show k + 5 + 0 ≤ 601024; omega, by show n + 2628 + 0 ≤ 7293034; omega⟩ d_LW_law_631 (fun v h8 hp => ?_)
    obtain ⟨t, r, rfl, hm8, hkM, hd⟩ := hp
    obtain ⟨rfl, hr9⟩ : t = 0 ∧ r = R := by
      rcases hd with ⟨z1, z2⟩ | ⟨z1, z2, z3⟩ | ⟨j2, zz, zj, zy, z3, z4⟩
      · exact absurd hzz z1
      · exfalso; omega
      · obtain rfl : j2 = yj := by omega
        exact ⟨z3, z4.trans hRe.symm⟩
    obtain rfl := hr9.symm
    have hm := hm8
    have hx := kp_MD_LB hx hkM
    have fo := kp_oMD hkM fo
    obtain ⟨bl, yl, fX, -⟩ := id hx
    obtain ⟨p3, p4, p6, p7, p9, p10, p11, p12, p13, p14, f0, f3, f4, f6, f7, f9, f10, f11, f12, f13, f14⟩ := id hm
    refine g_widen (k' := k + 5) (n' := n + 2628) (by show k + 5 + 0 ≤ k + 5; omega) (by show n + 2628 + 0 ≤ n + 2628; omega) ?_
    show G D s0 p l e _ s0 m _ below meth c h8 _ _ _ (F0 m 634 ls [.long (lZ (R))])
    refine g_s (fun kk => lv_lstore (lv' := [(6, .long (lZ (R))), (5, .int (iZ (0))), (4, .int (iZ (i))), (3, .ref o), (2, .ref a), (1, .ref x), (0, .ref b)]) X.1 X.2.1 d_LW_law_634 hl (by decide) rfl kk) (fun ls hl => ?_)
    refine g_1 (fun w => lv_aload_n X.1 X.2.1 d_LW_law_636 rfl (lv_at hl 4 rfl) w) ?_
    refine g_callV (na := 0) X (c_MD_thrown B0 hm) rfl f0 rfl ⟨⟨tw_551, tw_5⟩, ⟨by decide, by decide, by decide +kernel⟩, by decide, by decide⟩ tw_548 tw_549 tw_550 rfl hl.1 (Nat.le_of_ble_eq_true rfl) ⟨by show k + 5 + 0 ≤ 601024; omega, by show n + 2628 + 0 ≤ 7293034; omega⟩ d_LW_law_637 (fun v h9 hp => ?_)
    obtain ⟨rfl, rfl⟩ := hp
    refine g_widen (k' := k + 5) (n' := n + 2628) (by show k + 5 + 0 ≤ k + 5; omega) (by show n + 2628 + 0 ≤ n + 2628; omega) ?_
    show G D s0 p l e _ s0 m _ below meth c h8 _ _ _ (F0 m 640 ls [.int (iZ (0))])
    refine g_1 (fun w => lv_iload X.1 X.2.1 d_LW_law_640 (lv_at hl 1 rfl) w) ?_
    refine g_icmp_eq (tgt := 647) X (by first | exact ⟨by omega, by omega⟩ | exact hRok | exact hRlk | exact hxs _) (by first | exact ⟨by omega, by omega⟩ | exact hRok | exact hRlk | exact hxs _) d_LW_law_642 (by decide) (fun c642 => ?_) (fun c642 => ?_)
    · refine g_1 (fun w => lv_iload X.1 X.2.1 d_LW_law_647 (lv_at hl 1 rfl) w) ?_
      refine g_if_ne (tgt := 663) X (by first | exact ⟨by omega, by omega⟩ | exact hRok | exact hRlk | exact hxs _) d_LW_law_649 (by decide) (fun c649 => ?_) (fun c649 => ?_)
      · exact absurd c649 (by decide)
      · refine g_1 (fun w => lv_aload_n X.1 X.2.1 d_LW_law_652 rfl (lv_at hl 3 rfl) w) ?_
        refine g_1 (fun w => lv_iconst (v := iZ 0) X.1 X.2.1 d_LW_law_653 rfl w) ?_
        refine g_lld X fo (0) (rfl) (by omega) (by omega) d_LW_law_654 ?_
        refine g_tl (congrArg lZ (show ((va_up (g0) (0) (R)) 0 : Int) = R from va_up_self _ _ _)) ?_
        refine g_1 (fun w => lv_lload X.1 X.2.1 d_LW_law_655 (lv_at hl 0 rfl) w) ?_
        refine g_lcmp X (by first | exact ⟨by omega, by omega⟩ | exact hRok | exact hRlk | exact hxs _) (by first | exact ⟨by omega, by omega⟩ | exact hRok | exact hRlk | exact hxs _) d_LW_law_657 ?_
        refine g_if_eq (tgt := 663) X (cmpZ_ok _ _) d_LW_law_658 (by decide) (fun c658 => ?_) (fun c658 => ?_)
        · refine g_goto (tgt := 666) X d_LW_law_663 (by decide) ?_
          exact kont h8 ls ⟨A, bs, Y, ys, pn, tb, _, va_up (g0) (0) (R), hx, hm, fo, hI.t⟩ (lv_sub hl [2, 3, 4, 5, 6] rfl)
        · exact absurd (cmpZ_self _) c658
    · exact absurd c642 (by decide)
  · refine g_widen (k' := k + 5) (n' := n + 2628) (by show k + 1 ≤ k + 5; omega) (by show n + 6 ≤ n + 2628; omega) ?_
    show G D s0 p l e _ s0 m _ below meth c h _ _ _ (F0 m 616 ls [.int (iZ (1))])
    refine g_s (fun kk => lv_istore (lv' := [(5, .int (iZ (1))), (4, .int (iZ (i))), (3, .ref o), (2, .ref a), (1, .ref x), (0, .ref b)]) X.1 X.2.1 d_LW_law_616 hl (by decide) rfl kk) (fun ls hl => ?_)
    refine g_1 (fun w => lv_aload_n X.1 X.2.1 d_LW_law_618 rfl (lv_at hl 3 rfl) w) ?_
    refine g_1 (fun w => lv_aload_n X.1 X.2.1 d_LW_law_619 rfl (lv_at hl 5 rfl) w) ?_
    refine g_1 (fun w => lv_iload X.1 X.2.1 d_LW_law_620 (lv_at hl 1 rfl) w) ?_
    refine g_1 (fun w => lv_iconst (v := iZ 1) X.1 X.2.1 d_LW_law_622 rfl w) ?_
    refine g_iadd X d_LW_law_623 ?_
    refine g_sld X hX (i + 1) (by omega) (by omega) (by omega) d_LW_law_624 ?_
    refine g_1 (fun w => lv_aload_n X.1 X.2.1 d_LW_law_625 rfl (lv_at hl 5 rfl) w) ?_
    refine g_1 (fun w => lv_iload X.1 X.2.1 d_LW_law_626 (lv_at hl 1 rfl) w) ?_
    refine g_1 (fun w => lv_iconst (v := iZ 2) X.1 X.2.1 d_LW_law_628 rfl w) ?_
    refine g_iadd X d_LW_law_629 ?_
    refine g_sld X hX (i + 2) (by omega) (by omega) (by omega) d_LW_law_630 ?_
    refine g_callV (na := 2) X (c_MD_threshold B0 hm I2 I1 I3 (fun j hj => (I8 j hj).2.2.1) (hxs _) (hxs _)) rfl f0 rfl ⟨⟨tw_649, tw_5⟩, ⟨by decide, by decide, by decide +kernel⟩, by decide, by decide⟩ tw_646 tw_647 tw_648 rfl hl.1 (Nat.le_of_ble_eq_true rfl) ⟨by show k + 5 + 0 ≤ 601024; omega, by show n + 2628 + 0 ≤ 7293034; omega⟩ d_LW_law_631 (fun v h8 hp => ?_)
    obtain ⟨t, r, rfl, hm8, hkM, hd⟩ := hp
    obtain rfl : t = 1 := by
      rcases hd with ⟨z1, z2⟩ | ⟨z1, z2, z3⟩ | ⟨j2, zz, zj, zy, z3, z4⟩
      · exact z2
      · exact absurd z1 hbad
      · exact absurd zz hbad
    have hm := hm8
    have hx := kp_MD_LB hx hkM
    have fo := kp_oMD hkM fo
    obtain ⟨bl, yl, fX, -⟩ := id hx
    obtain ⟨p3, p4, p6, p7, p9, p10, p11, p12, p13, p14, f0, f3, f4, f6, f7, f9, f10, f11, f12, f13, f14⟩ := id hm
    refine g_widen (k' := k + 5) (n' := n + 2628) (by show k + 5 + 0 ≤ k + 5; omega) (by show n + 2628 + 0 ≤ n + 2628; omega) ?_
    show G D s0 p l e _ s0 m _ below meth c h8 _ _ _ (F0 m 634 ls [.long (lZ (r))])
    refine g_s (fun kk => lv_lstore (lv' := [(6, .long (lZ (r))), (5, .int (iZ (1))), (4, .int (iZ (i))), (3, .ref o), (2, .ref a), (1, .ref x), (0, .ref b)]) X.1 X.2.1 d_LW_law_634 hl (by decide) rfl kk) (fun ls hl => ?_)
    refine g_1 (fun w => lv_aload_n X.1 X.2.1 d_LW_law_636 rfl (lv_at hl 4 rfl) w) ?_
    refine g_callV (na := 0) X (c_MD_thrown B0 hm) rfl f0 rfl ⟨⟨tw_551, tw_5⟩, ⟨by decide, by decide, by decide +kernel⟩, by decide, by decide⟩ tw_548 tw_549 tw_550 rfl hl.1 (Nat.le_of_ble_eq_true rfl) ⟨by show k + 5 + 0 ≤ 601024; omega, by show n + 2628 + 0 ≤ 7293034; omega⟩ d_LW_law_637 (fun v h9 hp => ?_)
    obtain ⟨rfl, rfl⟩ := hp
    refine g_widen (k' := k + 5) (n' := n + 2628) (by show k + 5 + 0 ≤ k + 5; omega) (by show n + 2628 + 0 ≤ n + 2628; omega) ?_
    show G D s0 p l e _ s0 m _ below meth c h8 _ _ _ (F0 m 640 ls [.int (iZ (1))])
    refine g_1 (fun w => lv_iload X.1 X.2.1 d_LW_law_640 (lv_at hl 1 rfl) w) ?_
    refine g_icmp_eq (tgt := 647) X (by first | exact ⟨by omega, by omega⟩ | exact hRok | exact hRlk | exact hxs _) (by first | exact ⟨by omega, by omega⟩ | exact hRok | exact hRlk | exact hxs _) d_LW_law_642 (by decide) (fun c642 => ?_) (fun c642 => ?_)
    · refine g_1 (fun w => lv_iload X.1 X.2.1 d_LW_law_647 (lv_at hl 1 rfl) w) ?_
      refine g_if_ne (tgt := 663) X (by first | exact ⟨by omega, by omega⟩ | exact hRok | exact hRlk | exact hxs _) d_LW_law_649 (by decide) (fun c649 => ?_) (fun c649 => ?_)
      · refine g_goto (tgt := 666) X d_LW_law_663 (by decide) ?_
        exact kont h8 ls ⟨A, bs, Y, ys, pn, tb, _, g0, hx, hm, fo, hI.t⟩ (lv_sub hl [2, 3, 4, 5, 6] rfl)
      · exact absurd c649 (by decide)
    · exact absurd c642 (by decide)
  · refine g_widen (k' := k + 5) (n' := n + 2628) (by show k + 1 ≤ k + 5; omega) (by show n + 6 ≤ n + 2628; omega) ?_
    show G D s0 p l e _ s0 m _ below meth c h _ _ _ (F0 m 616 ls [.int (iZ (2))])
    refine g_s (fun kk => lv_istore (lv' := [(5, .int (iZ (2))), (4, .int (iZ (i))), (3, .ref o), (2, .ref a), (1, .ref x), (0, .ref b)]) X.1 X.2.1 d_LW_law_616 hl (by decide) rfl kk) (fun ls hl => ?_)
    refine g_1 (fun w => lv_aload_n X.1 X.2.1 d_LW_law_618 rfl (lv_at hl 3 rfl) w) ?_
    refine g_1 (fun w => lv_aload_n X.1 X.2.1 d_LW_law_619 rfl (lv_at hl 5 rfl) w) ?_
    refine g_1 (fun w => lv_iload X.1 X.2.1 d_LW_law_620 (lv_at hl 1 rfl) w) ?_
    refine g_1 (fun w => lv_iconst (v := iZ 1) X.1 X.2.1 d_LW_law_622 rfl w) ?_
    refine g_iadd X d_LW_law_623 ?_
    refine g_sld X hX (i + 1) (by omega) (by omega) (by omega) d_LW_law_624 ?_
    refine g_1 (fun w => lv_aload_n X.1 X.2.1 d_LW_law_625 rfl (lv_at hl 5 rfl) w) ?_
    refine g_1 (fun w => lv_iload X.1 X.2.1 d_LW_law_626 (lv_at hl 1 rfl) w) ?_
    refine g_1 (fun w => lv_iconst (v := iZ 2) X.1 X.2.1 d_LW_law_628 rfl w) ?_
    refine g_iadd X d_LW_law_629 ?_
    refine g_sld X hX (i + 2) (by omega) (by omega) (by omega) d_LW_law_630 ?_
    refine g_callV (na := 2) X (c_MD_threshold B0 hm I2 I1 I3 (fun j hj => (I8 j hj).2.2.1) (hxs _) (hxs _)) rfl f0 rfl ⟨⟨tw_649, tw_5⟩, ⟨by decide, by decide, by decide +kernel⟩, by decide, by decide⟩ tw_646 tw_647 tw_648 rfl hl.1 (Nat.le_of_ble_eq_true rfl) ⟨by show k + 5 + 0 ≤ 601024; omega, by show n + 2628 + 0 ≤ 7293034; omega⟩ d_LW_law_631 (fun v h8 hp => ?_)
    obtain ⟨t, r, rfl, hm8, hkM, hd⟩ := hp
    obtain rfl : t = 2 := by
      obtain ⟨q1, q2⟩ := hbad
      rcases hd with ⟨z1, z2⟩ | ⟨z1, z2, z3⟩ | ⟨j2, zz, zj, zy, z3, z4⟩
      · exact absurd q1 z1
      · exact z3
      · exfalso; omega
    have hm := hm8
    have hx := kp_MD_LB hx hkM
    have fo := kp_oMD hkM fo
    obtain ⟨bl, yl, fX, -⟩ := id hx
    obtain ⟨p3, p4, p6, p7, p9, p10, p11, p12, p13, p14, f0, f3, f4, f6, f7, f9, f10, f11, f12, f13, f14⟩ := id hm
    refine g_widen (k' := k + 5) (n' := n + 2628) (by show k + 5 + 0 ≤ k + 5; omega) (by show n + 2628 + 0 ≤ n + 2628; omega) ?_
    show G D s0 p l e _ s0 m _ below meth c h8 _ _ _ (F0 m 634 ls [.long (lZ (r))])
    refine g_s (fun kk => lv_lstore (lv' := [(6, .long (lZ (r))), (5, .int (iZ (2))), (4, .int (iZ (i))), (3, .ref o), (2, .ref a), (1, .ref x), (0, .ref b)]) X.1 X.2.1 d_LW_law_634 hl (by decide) rfl kk) (fun ls hl => ?_)
    refine g_1 (fun w => lv_aload_n X.1 X.2.1 d_LW_law_636 rfl (lv_at hl 4 rfl) w) ?_
    refine g_callV (na := 0) X (c_MD_thrown B0 hm) rfl f0 rfl ⟨⟨tw_551, tw_5⟩, ⟨by decide, by decide, by decide +kernel⟩, by decide, by decide⟩ tw_548 tw_549 tw_550 rfl hl.1 (Nat.le_of_ble_eq_true rfl) ⟨by show k + 5 + 0 ≤ 601024; omega, by show n + 2628 + 0 ≤ 7293034; omega⟩ d_LW_law_637 (fun v h9 hp => ?_)
    obtain ⟨rfl, rfl⟩ := hp
    refine g_widen (k' := k + 5) (n' := n + 2628) (by show k + 5 + 0 ≤ k + 5; omega) (by show n + 2628 + 0 ≤ n + 2628; omega) ?_
    show G D s0 p l e _ s0 m _ below meth c h8 _ _ _ (F0 m 640 ls [.int (iZ (2))])
    refine g_1 (fun w => lv_iload X.1 X.2.1 d_LW_law_640 (lv_at hl 1 rfl) w) ?_
    refine g_icmp_eq (tgt := 647) X (by first | exact ⟨by omega, by omega⟩ | exact hRok | exact hRlk | exact hxs _) (by first | exact ⟨by omega, by omega⟩ | exact hRok | exact hRlk | exact hxs _) d_LW_law_642 (by decide) (fun c642 => ?_) (fun c642 => ?_)
    · refine g_1 (fun w => lv_iload X.1 X.2.1 d_LW_law_647 (lv_at hl 1 rfl) w) ?_
      refine g_if_ne (tgt := 663) X (by first | exact ⟨by omega, by omega⟩ | exact hRok | exact hRlk | exact hxs _) d_LW_law_649 (by decide) (fun c649 => ?_) (fun c649 => ?_)
      · refine g_goto (tgt := 666) X d_LW_law_663 (by decide) ?_
        exact kont h8 ls ⟨A, bs, Y, ys, pn, tb, _, g0, hx, hm, fo, hI.t⟩ (lv_sub hl [2, 3, 4, 5, 6] rfl)
      · exact absurd c649 (by decide)
    · exact absurd c642 (by decide)
