theorem cV_snoc {M : Mdl} {i : Nat} {kk xx : Nat → Int} {bs : Nat → Blk} {k x : Int} (h : cV (mKX M kk xx) i bs) (h1 : k = bL (bs i)) (h2 : x = if bT (bs i) < bS (bs i) then (bC (bs i) (bT (bs i) + 1) : Int) else -1) : cV (mKX M (va_up kk i k) (va_up xx i x)) (i + 1) bs := by
  intro b hb
  show va_up kk i k b = _ ∧ va_up xx i x b = _
  by_cases e : b = i
  · subst e
    rw [va_up_self, va_up_self]
    exact ⟨h1, h2⟩
  · rw [va_up_ne _ _ e, va_up_ne _ _ e]
    exact h b (by omega)
theorem eN_nx {b : Blk} (h : wfC b) : eN (sfr b (bL b) (bP b)) = if bT b < bS b then (bC b (bT b + 1) : Int) else -1 := by
  rw [h.nx]
  by_cases z : bT b < bS b
  · rw [if_pos z, if_pos z]
    have y := h.1.2.2.1 _ z
    exact eN_s (by omega)
  · rw [if_neg z, if_neg z]
    rfl
theorem mV_kx {M : Mdl} {n : Nat} {bs : Nat → Blk} {g b k x : Nat → Int} (h : mV M n bs) : mV (mKX (mLM (0, M.2) g b) k x) n bs := h
theorem mY_kx {M : Mdl} {yn : Nat} {g b k x : Nat → Int} (h : mY M = yn) : mY (mKX (mLM (0, M.2) g b) k x) = yn := h
theorem cV_kx {A B : Mdl} {n : Nat} {bs : Nat → Blk} {k x : Nat → Int} (h : cV (mKX A k x) n bs) : cV (mKX B k x) n bs := h
theorem isMD_kx {D : va_G} {h : gH} {a yn : Nat} {M A : Mdl} {g b k x k2 x2 : Nat → Int} {u w u2 w2 : Int} (hA : A = mKX (mLM (0, M.2) (va_up g yn u) (va_up b yn w)) k x) (hm : isMD D h a (mKX (mLM A (va_up (aL A) yn u2) (va_up (aM A) yn w2)) k2 x2)) : isMD D h a (mKX (mLM (0, M.2) (va_up g yn u2) (va_up b yn w2)) k2 x2) := by
  subst hA
  have e1 : va_up (aL (mKX (mLM (0, M.2) (va_up g yn u) (va_up b yn w)) k x)) yn u2 = va_up g yn u2 := va_up_up g yn u u2
  have e2 : va_up (aM (mKX (mLM (0, M.2) (va_up g yn u) (va_up b yn w)) k x)) yn w2 = va_up b yn w2 := va_up_up b yn w w2
  rw [e1, e2] at hm
  exact hm

set_option maxHeartbeats 4000000 in
set_option maxRecDepth 100000 in
theorem c_MD_layerN {D : va_G} {s0 : State} {l : Launch} {h : gH} (B0 : gB D s0) {a n : Nat} {M : Mdl} {bs : Nat → Blk} (hm : isMD D h a M) (hv : mV M n bs) (hw : ∀ b, b < n → wfC (bs b)) {yn : Nat} (l1 : mY M = yn) (l2 : yn ≤ 64) (hcut : ∀ b, b < n → (yn = 0 → bL (bs b) = 0) ∧ (0 < yn → aC M (1024 * (yn - 1) + b) = bL (bs b))) {bud tb : Int} (hbu : i_ok bud) {N : Nat} (hrem : rem bs n ≤ N) (htb : tb = totB bs n) {QQ : Tkg} (hQQ : QQ = layQ n N bud bs tb) (hbd : bud = -1) : gMet D s0 l y_MD_layer b_MD_layer 5 (some .int) ({ frames := 4, cells := 0, slots := 0, locals := 96 } : Room) [.ref a, .int (iZ (bud))] h (fun v h' => ∃ t r : Int, some (.int (iZ r)) = v ∧ kp P_MD h h' ∧ ((bud < -1 ∧ t = 1 ∧ isMD D h' a (1, M.2)) ∨ (-1 ≤ bud ∧ ¬ yn < 64 ∧ t = 2 ∧ isMD D h' a (2, M.2)) ∨ (-1 ≤ bud ∧ yn < 64 ∧ t = 0 ∧ r = QQ.2.1 ∧ ∃ C' k x : Nat → Int, (∀ b, b < n → C' (1024 * yn + b) = bL (QQ.1 b)) ∧ (∀ j, j < 1024 * yn → C' j = aC M j) ∧ isMD D h' a (0, mN M, mA M, mU M, mY M + 1, aP M, aB M, aY M, aG M, C', va_up (aT M) yn (totB QQ.1 n), va_up (aL M) yn QQ.2.2.1, va_up (aM M) yn QQ.2.2.2, k, x)))) := by
  obtain ⟨p3, p4, p6, p7, p9, p10, p11, p12, p13, p14, f0, f3, f4, f6, f7, f9, f10, f11, f12, f13, f14⟩ := id hm
  obtain ⟨v1, v2, v3, v4, v5⟩ := id hv
  obtain ⟨hbu1, hbu2⟩ := id hbu
  have hwQ : ∀ i, i < n → wfC (QQ.1 i) := by rw [hQQ]; exact lay_wfC hw
  have hvQ : mV M n QQ.1 := mV_congr hv (fun i hi => by rw [hQQ]; exact lay_BGP i)
  have htQ : QQ.2.1 = totB QQ.1 n := by rw [hQQ]; exact lay_tot hw htb
  refine g_enter B0 (plainFor_of_name (by decide)) (Nat.le_of_ble_eq_true rfl) (fun p e s m below meth c ls X hnm hl => ?_)
  have hl : lv_has ls 5 [(0, .ref a), (1, .int (iZ (bud)))] := hl
  have tail : ∀ (hh : gH) (kk_ xx_ : Nat → Int) (ls : Array Slot), yn < 64 → -1 ≤ bud → isMD D hh a (mKX (mLM (0, M.2) (va_up (aL M) yn (QQ.2.2.1)) (va_up (aM M) yn (QQ.2.2.2))) kk_ xx_) → cV (mKX (mLM (0, M.2) (va_up (aL M) yn (QQ.2.2.1)) (va_up (aM M) yn (QQ.2.2.2))) kk_ xx_) n QQ.1 → kp P_MD h hh → lv_has ls 5 [(0, .ref a)] → G D s0 p l e ({ frames := 4, cells := 0, slots := 0, locals := 96 } : Room) s m ([.ref a, .int (iZ (bud))] : List Value).toArray below meth c hh 0 0 (MQ below (gQ D s0 (fun v h' => ∃ t r : Int, some (.int (iZ r)) = v ∧ kp P_MD h h' ∧ ((bud < -1 ∧ t = 1 ∧ isMD D h' a (1, M.2)) ∨ (-1 ≤ bud ∧ ¬ yn < 64 ∧ t = 2 ∧ isMD D h' a (2, M.2)) ∨ (-1 ≤ bud ∧ yn < 64 ∧ t = 0 ∧ r = QQ.2.1 ∧ ∃ C' k x : Nat → Int, (∀ b, b < n → C' (1024 * yn + b) = bL (QQ.1 b)) ∧ (∀ j, j < 1024 * yn → C' j = aC M j) ∧ isMD D h' a (0, mN M, mA M, mU M, mY M + 1, aP M, aB M, aY M, aG M, C', va_up (aT M) yn (totB QQ.1 n), va_up (aL M) yn QQ.2.2.1, va_up (aM M) yn QQ.2.2.2, k, x))))) ([.ref a, .int (iZ (bud))] : List Value).toArray s 0 0 (fun q => s0.heap.size ≤ q)) (F0 m 190 ls []) := by
    intro hh kk_ xx_ ls hy64 hbm hmt hct hkk hl
    have loop3 : ∀ (d i : Nat) (hg : gH) (cc_ : Nat → Int) (ls : Array Slot), i + d = n → isMD D hg a (0, mN M, mA M, mU M, mY M, aP M, aB M, aY M, aG M, cc_, va_up (aT M) yn (totB QQ.1 n), va_up (aL M) yn (QQ.2.2.1), va_up (aM M) yn (QQ.2.2.2), kk_, xx_) → (∀ b, b < i → cc_ (1024 * yn + b) = bL (QQ.1 b)) → (∀ j, j < 1024 * yn → cc_ j = aC M j) → kp P_MD h hg → lv_has ls 5 [(4, .int (iZ (i))), (0, .ref a)] → G D s0 p l e ({ frames := 4, cells := 0, slots := 0, locals := 96 } : Room) s m ([.ref a, .int (iZ (bud))] : List Value).toArray below meth c hg 0 0 (MQ below (gQ D s0 (fun v h' => ∃ t r : Int, some (.int (iZ r)) = v ∧ kp P_MD h h' ∧ ((bud < -1 ∧ t = 1 ∧ isMD D h' a (1, M.2)) ∨ (-1 ≤ bud ∧ ¬ yn < 64 ∧ t = 2 ∧ isMD D h' a (2, M.2)) ∨ (-1 ≤ bud ∧ yn < 64 ∧ t = 0 ∧ r = QQ.2.1 ∧ ∃ C' k x : Nat → Int, (∀ b, b < n → C' (1024 * yn + b) = bL (QQ.1 b)) ∧ (∀ j, j < 1024 * yn → C' j = aC M j) ∧ isMD D h' a (0, mN M, mA M, mU M, mY M + 1, aP M, aB M, aY M, aG M, C', va_up (aT M) yn (totB QQ.1 n), va_up (aL M) yn QQ.2.2.1, va_up (aM M) yn QQ.2.2.2, k, x))))) ([.ref a, .int (iZ (bud))] : List Value).toArray s 0 0 (fun q => s0.heap.size ≤ q)) (F0 m 206 ls []) := by
      intro d
      induction d with
      | zero =>
        intro i hg cc_ ls hi hmg hcc hcd hkg hl
        obtain ⟨p3, p4, p6, p7, p9, p10, p11, p12, p13, p14, f0, f3, f4, f6, f7, f9, f10, f11, f12, f13, f14⟩ := id hmg
        have f0 : hg a = some ((20, 0), .inr (4, [.int (iZ (0)), .int (iZ (mN M)), .int (iZ (mA M)), .ref p3, .ref p4, .int (iZ (mU M)), .ref p6, .ref p7, .int (iZ (mY M)), .ref p9, .ref p10, .ref p11, .ref p12, .ref p13, .ref p14])) := f0
        have f3 : hg p3 = some ((21, a), gI D 1024 (aP M)) := f3
        have f4 : hg p4 = some ((22, a), gI D 1024 (aB M)) := f4
        have f6 : hg p6 = some ((23, a), gI D 17408 (aY M)) := f6
        have f7 : hg p7 = some ((24, a), gL D 17408 (aG M)) := f7
        have f9 : hg p9 = some ((25, a), gI D 65536 (cc_)) := f9
        have f10 : hg p10 = some ((26, a), gI D 64 (va_up (aT M) yn (totB QQ.1 n))) := f10
        have f11 : hg p11 = some ((27, a), gL D 64 (va_up (aL M) yn (QQ.2.2.1))) := f11
        have f12 : hg p12 = some ((28, a), gI D 64 (va_up (aM M) yn (QQ.2.2.2))) := f12
        have f13 : hg p13 = some ((29, a), gI D 1024 (kk_)) := f13
        have f14 : hg p14 = some ((30, a), gI D 1024 (xx_)) := f14
        refine g_1 (fun w => lv_iload X.1 X.2.1 d_MD_layer_206 (lv_at hl 0 rfl) w) ?_
        refine g_1 (fun w => lv_aload_n X.1 X.2.1 d_MD_layer_208 rfl (lv_at hl 1 rfl) w) ?_
        refine g_get X (ci := 4) rfl f0 1 (by decide) ⟨rfl, rfl⟩ tw_503 (Or.inl rfl) rfl d_MD_layer_209 ?_
        refine g_icmp_ge (tgt := 244) X (by first | exact ⟨by omega, by omega⟩ | (split <;> exact ⟨by omega, by omega⟩) | exact cmpZ_ok _ _ | exact mul_ok (by omega) (by omega) (by omega) (by omega)) (by first | exact ⟨by omega, by omega⟩ | (split <;> exact ⟨by omega, by omega⟩) | exact cmpZ_ok _ _ | exact mul_ok (by omega) (by omega) (by omega) (by omega)) d_MD_layer_212 (by decide) (fun c212 => ?_) (fun c212 => ?_)
        · refine g_1 (fun w => lv_aload_n X.1 X.2.1 d_MD_layer_244 rfl (lv_at hl 1 rfl) w) ?_
          refine g_1 (fun w => lv_dup X.1 X.2.1 d_MD_layer_245 rfl w) ?_
          refine g_get X (ci := 4) rfl f0 8 (by decide) ⟨rfl, rfl⟩ tw_510 (Or.inl rfl) rfl d_MD_layer_246 ?_
          refine g_1 (fun w => lv_iconst (v := iZ 1) X.1 X.2.1 d_MD_layer_249 rfl w) ?_
          refine g_iadd X d_MD_layer_250 ?_
          refine g_put X (ci := 4) rfl f0 (Nat.succ_ne_zero _) 8 (by decide) ⟨rfl, rfl⟩ tw_510 (Or.inl rfl) rfl rfl rfl (Nat.le_of_ble_eq_true rfl) d_MD_layer_251 ?_
          obtain ⟨h_1, eh_1⟩ : ∃ z, z = g_up hg a ((20, 0), .inr (4, [.int (iZ (0)), .int (iZ (mN M)), .int (iZ (mA M)), .ref p3, .ref p4, .int (iZ (mU M)), .ref p6, .ref p7, .int (iZ (mY M + 1)), .ref p9, .ref p10, .ref p11, .ref p12, .ref p13, .ref p14])) := ⟨_, rfl⟩
          refine g_h (h' := h_1) eh_1.symm ?_
          have f_2 : h_1 a = some ((20, 0), .inr (4, [.int (iZ (0)), .int (iZ (mN M)), .int (iZ (mA M)), .ref p3, .ref p4, .int (iZ (mU M)), .ref p6, .ref p7, .int (iZ (mY M + 1)), .ref p9, .ref p10, .ref p11, .ref p12, .ref p13, .ref p14])) := by rw [eh_1]; exact g_us
          have f_3 : h_1 p3 = some ((21, a), gI D 1024 (aP M)) := by rw [eh_1]; exact g_uk f3 f0 (show (21 : Nat) ≠ 20 by decide)
          have f_4 : h_1 p4 = some ((22, a), gI D 1024 (aB M)) := by rw [eh_1]; exact g_uk f4 f0 (show (22 : Nat) ≠ 20 by decide)
          have f_5 : h_1 p6 = some ((23, a), gI D 17408 (aY M)) := by rw [eh_1]; exact g_uk f6 f0 (show (23 : Nat) ≠ 20 by decide)
          have f_6 : h_1 p7 = some ((24, a), gL D 17408 (aG M)) := by rw [eh_1]; exact g_uk f7 f0 (show (24 : Nat) ≠ 20 by decide)
          have f_7 : h_1 p9 = some ((25, a), gI D 65536 (cc_)) := by rw [eh_1]; exact g_uk f9 f0 (show (25 : Nat) ≠ 20 by decide)
          have f_8 : h_1 p10 = some ((26, a), gI D 64 (va_up (aT M) yn (totB QQ.1 n))) := by rw [eh_1]; exact g_uk f10 f0 (show (26 : Nat) ≠ 20 by decide)
          have f_9 : h_1 p11 = some ((27, a), gL D 64 (va_up (aL M) yn (QQ.2.2.1))) := by rw [eh_1]; exact g_uk f11 f0 (show (27 : Nat) ≠ 20 by decide)
          have f_10 : h_1 p12 = some ((28, a), gI D 64 (va_up (aM M) yn (QQ.2.2.2))) := by rw [eh_1]; exact g_uk f12 f0 (show (28 : Nat) ≠ 20 by decide)
          have f_11 : h_1 p13 = some ((29, a), gI D 1024 (kk_)) := by rw [eh_1]; exact g_uk f13 f0 (show (29 : Nat) ≠ 20 by decide)
          have f_12 : h_1 p14 = some ((30, a), gI D 1024 (xx_)) := by rw [eh_1]; exact g_uk f14 f0 (show (30 : Nat) ≠ 20 by decide)
          have hk_13 := kp_up (hkg) eh_1 f0 (⟨Nat.le_of_ble_eq_true rfl, Nat.le_of_ble_eq_true rfl⟩)
          refine g_1 (fun w => lv_aload_n X.1 X.2.1 d_MD_layer_254 rfl (lv_at hl 1 rfl) w) ?_
          refine g_get X (ci := 4) rfl f_2 10 (by decide) ⟨rfl, rfl⟩ tw_512 (Or.inl rfl) rfl d_MD_layer_255 ?_
          refine g_1 (fun w => lv_aload_n X.1 X.2.1 d_MD_layer_258 rfl (lv_at hl 1 rfl) w) ?_
          refine g_get X (ci := 4) rfl f_2 8 (by decide) ⟨rfl, rfl⟩ tw_510 (Or.inl rfl) rfl d_MD_layer_259 ?_
          refine g_1 (fun w => lv_iconst (v := iZ 1) X.1 X.2.1 d_MD_layer_262 rfl w) ?_
          refine g_isub X d_MD_layer_263 ?_
          refine g_ild X f_8 (yn) (by omega) (by omega) (by omega) d_MD_layer_264 ?_
          exact g_iret X (⟨0, QQ.2.1, g_ei (by rw [va_up_self, htQ]), hk_13, Or.inr (Or.inr ⟨by omega, by omega, rfl, rfl, cc_, kk_, xx_, fun b hb => hcc b (by omega), hcd, ⟨p3, p4, p6, p7, p9, p10, p11, p12, p13, p14, f_2, f_3, f_4, f_5, f_6, f_7, f_8, f_9, f_10, f_11, f_12⟩⟩)⟩) (by decide) (by decide) d_MD_layer_265
        · exfalso
          omega
      | succ d ih =>
        intro i hg cc_ ls hi hmg hcc hcd hkg hl
        obtain ⟨p3, p4, p6, p7, p9, p10, p11, p12, p13, p14, f0, f3, f4, f6, f7, f9, f10, f11, f12, f13, f14⟩ := id hmg
        have f0 : hg a = some ((20, 0), .inr (4, [.int (iZ (0)), .int (iZ (mN M)), .int (iZ (mA M)), .ref p3, .ref p4, .int (iZ (mU M)), .ref p6, .ref p7, .int (iZ (mY M)), .ref p9, .ref p10, .ref p11, .ref p12, .ref p13, .ref p14])) := f0
        have f3 : hg p3 = some ((21, a), gI D 1024 (aP M)) := f3
        have f4 : hg p4 = some ((22, a), gI D 1024 (aB M)) := f4
        have f6 : hg p6 = some ((23, a), gI D 17408 (aY M)) := f6
        have f7 : hg p7 = some ((24, a), gL D 17408 (aG M)) := f7
        have f9 : hg p9 = some ((25, a), gI D 65536 (cc_)) := f9
        have f10 : hg p10 = some ((26, a), gI D 64 (va_up (aT M) yn (totB QQ.1 n))) := f10
        have f11 : hg p11 = some ((27, a), gL D 64 (va_up (aL M) yn (QQ.2.2.1))) := f11
        have f12 : hg p12 = some ((28, a), gI D 64 (va_up (aM M) yn (QQ.2.2.2))) := f12
        have f13 : hg p13 = some ((29, a), gI D 1024 (kk_)) := f13
        have f14 : hg p14 = some ((30, a), gI D 1024 (xx_)) := f14
        refine g_1 (fun w => lv_iload X.1 X.2.1 d_MD_layer_206 (lv_at hl 0 rfl) w) ?_
        refine g_1 (fun w => lv_aload_n X.1 X.2.1 d_MD_layer_208 rfl (lv_at hl 1 rfl) w) ?_
        refine g_get X (ci := 4) rfl f0 1 (by decide) ⟨rfl, rfl⟩ tw_503 (Or.inl rfl) rfl d_MD_layer_209 ?_
        refine g_icmp_ge (tgt := 244) X (by first | exact ⟨by omega, by omega⟩ | (split <;> exact ⟨by omega, by omega⟩) | exact cmpZ_ok _ _ | exact mul_ok (by omega) (by omega) (by omega) (by omega)) (by first | exact ⟨by omega, by omega⟩ | (split <;> exact ⟨by omega, by omega⟩) | exact cmpZ_ok _ _ | exact mul_ok (by omega) (by omega) (by omega) (by omega)) d_MD_layer_212 (by decide) (fun c212 => ?_) (fun c212 => ?_)
        · exfalso
          omega
        · refine g_1 (fun w => lv_aload_n X.1 X.2.1 d_MD_layer_215 rfl (lv_at hl 1 rfl) w) ?_
          refine g_get X (ci := 4) rfl f0 9 (by decide) ⟨rfl, rfl⟩ tw_511 (Or.inl rfl) rfl d_MD_layer_216 ?_
          refine g_1 (fun w => lv_sipush (v := iZ 1024) X.1 X.2.1 d_MD_layer_219 (by decide) w) ?_
          refine g_1 (fun w => lv_aload_n X.1 X.2.1 d_MD_layer_222 rfl (lv_at hl 1 rfl) w) ?_
          refine g_get X (ci := 4) rfl f0 8 (by decide) ⟨rfl, rfl⟩ tw_510 (Or.inl rfl) rfl d_MD_layer_223 ?_
          refine g_imul X d_MD_layer_226 ?_
          refine g_1 (fun w => lv_iload X.1 X.2.1 d_MD_layer_227 (lv_at hl 0 rfl) w) ?_
          refine g_iadd X d_MD_layer_229 ?_
          refine g_1 (fun w => lv_aload_n X.1 X.2.1 d_MD_layer_230 rfl (lv_at hl 1 rfl) w) ?_
          refine g_get X (ci := 4) rfl f0 13 (by decide) ⟨rfl, rfl⟩ tw_515 (Or.inl rfl) rfl d_MD_layer_231 ?_
          refine g_1 (fun w => lv_iload X.1 X.2.1 d_MD_layer_234 (lv_at hl 0 rfl) w) ?_
          refine g_ild X f13 (i) (rfl) (by omega) (by omega) d_MD_layer_236 ?_
          refine g_ti (congrArg iZ (show (kk_ i : Int) = bL (QQ.1 i) from (hct i (by omega)).1)) ?_
          refine g_ist X f9 (Nat.succ_ne_zero _) (1024 * yn + i) (by omega) (by omega) (by omega) d_MD_layer_237 ?_
          obtain ⟨h_1, eh_1⟩ : ∃ z, z = g_up hg p9 ((25, a), gI D 65536 (va_up (cc_) (1024 * yn + i) (bL (QQ.1 i)))) := ⟨_, rfl⟩
          refine g_h (h' := h_1) eh_1.symm ?_
          have f_2 : h_1 a = some ((20, 0), .inr (4, [.int (iZ (0)), .int (iZ (mN M)), .int (iZ (mA M)), .ref p3, .ref p4, .int (iZ (mU M)), .ref p6, .ref p7, .int (iZ (mY M)), .ref p9, .ref p10, .ref p11, .ref p12, .ref p13, .ref p14])) := by rw [eh_1]; exact g_uk f0 f9 (show (20 : Nat) ≠ 25 by decide)
          have f_3 : h_1 p3 = some ((21, a), gI D 1024 (aP M)) := by rw [eh_1]; exact g_uk f3 f9 (show (21 : Nat) ≠ 25 by decide)
          have f_4 : h_1 p4 = some ((22, a), gI D 1024 (aB M)) := by rw [eh_1]; exact g_uk f4 f9 (show (22 : Nat) ≠ 25 by decide)
          have f_5 : h_1 p6 = some ((23, a), gI D 17408 (aY M)) := by rw [eh_1]; exact g_uk f6 f9 (show (23 : Nat) ≠ 25 by decide)
          have f_6 : h_1 p7 = some ((24, a), gL D 17408 (aG M)) := by rw [eh_1]; exact g_uk f7 f9 (show (24 : Nat) ≠ 25 by decide)
          have f_7 : h_1 p9 = some ((25, a), gI D 65536 (va_up (cc_) (1024 * yn + i) (bL (QQ.1 i)))) := by rw [eh_1]; exact g_us
          have f_8 : h_1 p10 = some ((26, a), gI D 64 (va_up (aT M) yn (totB QQ.1 n))) := by rw [eh_1]; exact g_uk f10 f9 (show (26 : Nat) ≠ 25 by decide)
          have f_9 : h_1 p11 = some ((27, a), gL D 64 (va_up (aL M) yn (QQ.2.2.1))) := by rw [eh_1]; exact g_uk f11 f9 (show (27 : Nat) ≠ 25 by decide)
          have f_10 : h_1 p12 = some ((28, a), gI D 64 (va_up (aM M) yn (QQ.2.2.2))) := by rw [eh_1]; exact g_uk f12 f9 (show (28 : Nat) ≠ 25 by decide)
          have f_11 : h_1 p13 = some ((29, a), gI D 1024 (kk_)) := by rw [eh_1]; exact g_uk f13 f9 (show (29 : Nat) ≠ 25 by decide)
          have f_12 : h_1 p14 = some ((30, a), gI D 1024 (xx_)) := by rw [eh_1]; exact g_uk f14 f9 (show (30 : Nat) ≠ 25 by decide)
          have hk_13 := kp_up (hkg) eh_1 f9 (⟨Nat.le_of_ble_eq_true rfl, Nat.le_of_ble_eq_true rfl⟩)
          refine g_s (fun kk => lv_iinc (v := iZ (i + 1)) (lv' := [(4, .int (iZ (i + 1))), (0, .ref a)]) X.1 X.2.1 d_MD_layer_238 hl (k := 0) rfl (iZ_add _ _) (by decide) rfl kk) (fun ls hl => ?_)
          refine g_goto (tgt := 206) X d_MD_layer_241 (by decide) ?_
          exact ih (i + 1) h_1 (va_up cc_ (1024 * yn + i) (bL (QQ.1 i))) ls (by omega) ⟨p3, p4, p6, p7, p9, p10, p11, p12, p13, p14, f_2, f_3, f_4, f_5, f_6, f_7, f_8, f_9, f_10, f_11, f_12⟩ (fun b hb => by
            by_cases ez : b = i
            · rw [ez, va_up_self]
            · rw [va_up_ne _ _ (by omega)]; exact hcc b (by omega)) (fun j hj => by rw [va_up_ne _ _ (by omega)]; exact hcd j hj) hk_13 (lv_sub hl [0, 1] rfl)
    obtain ⟨p3, p4, p6, p7, p9, p10, p11, p12, p13, p14, f0, f3, f4, f6, f7, f9, f10, f11, f12, f13, f14⟩ := id hmt
    have f0 : hh a = some ((20, 0), .inr (4, [.int (iZ (0)), .int (iZ (mN M)), .int (iZ (mA M)), .ref p3, .ref p4, .int (iZ (mU M)), .ref p6, .ref p7, .int (iZ (mY M)), .ref p9, .ref p10, .ref p11, .ref p12, .ref p13, .ref p14])) := f0
    have f3 : hh p3 = some ((21, a), gI D 1024 (aP M)) := f3
    have f4 : hh p4 = some ((22, a), gI D 1024 (aB M)) := f4
    have f6 : hh p6 = some ((23, a), gI D 17408 (aY M)) := f6
    have f7 : hh p7 = some ((24, a), gL D 17408 (aG M)) := f7
    have f9 : hh p9 = some ((25, a), gI D 65536 (aC M)) := f9
    have f10 : hh p10 = some ((26, a), gI D 64 (aT M)) := f10
    have f11 : hh p11 = some ((27, a), gL D 64 (va_up (aL M) yn (QQ.2.2.1))) := f11
    have f12 : hh p12 = some ((28, a), gI D 64 (va_up (aM M) yn (QQ.2.2.2))) := f12
    have f13 : hh p13 = some ((29, a), gI D 1024 (kk_)) := f13
    have f14 : hh p14 = some ((30, a), gI D 1024 (xx_)) := f14
    refine g_1 (fun w => lv_aload_n X.1 X.2.1 d_MD_layer_190 rfl (lv_at hl 0 rfl) w) ?_
    refine g_get X (ci := 4) rfl f0 10 (by decide) ⟨rfl, rfl⟩ tw_512 (Or.inl rfl) rfl d_MD_layer_191 ?_
    refine g_1 (fun w => lv_aload_n X.1 X.2.1 d_MD_layer_194 rfl (lv_at hl 0 rfl) w) ?_
    refine g_get X (ci := 4) rfl f0 8 (by decide) ⟨rfl, rfl⟩ tw_510 (Or.inl rfl) rfl d_MD_layer_195 ?_
    refine g_1 (fun w => lv_aload_n X.1 X.2.1 d_MD_layer_198 rfl (lv_at hl 0 rfl) w) ?_
    refine g_callV (na := 0) X (c_MD_sumOf B0 hmt (mV_kx hvQ) hwQ hct) rfl f0 rfl ⟨⟨tw_621, tw_5⟩, ⟨by decide, by decide, by decide +kernel⟩, by decide, by decide⟩ tw_618 tw_620 ts_MD_sumOf rfl hl.1 (Nat.le_of_ble_eq_true rfl) ⟨by decide, by decide⟩ d_MD_layer_199 (fun v h' hp => ?_)
    obtain ⟨rfl, rfl⟩ := hp
    refine g_widen (k' := 0) (n' := 0) (by decide) (by decide) ?_
    show G D s0 p l e _ s m _ below meth c hh _ _ _ (F0 m 202 ls [.int (iZ (totB QQ.1 n)), .int (iZ (mY M)), .ref p10])
    refine g_ist X f10 (Nat.succ_ne_zero _) (yn) (l1) (by omega) (by omega) d_MD_layer_202 ?_
    obtain ⟨h_1, eh_1⟩ : ∃ z, z = g_up hh p10 ((26, a), gI D 64 (va_up (aT M) (yn) (totB QQ.1 n))) := ⟨_, rfl⟩
    refine g_h (h' := h_1) eh_1.symm ?_
    have f_2 : h_1 a = some ((20, 0), .inr (4, [.int (iZ (0)), .int (iZ (mN M)), .int (iZ (mA M)), .ref p3, .ref p4, .int (iZ (mU M)), .ref p6, .ref p7, .int (iZ (mY M)), .ref p9, .ref p10, .ref p11, .ref p12, .ref p13, .ref p14])) := by rw [eh_1]; exact g_uk f0 f10 (show (20 : Nat) ≠ 26 by decide)
    have f_3 : h_1 p3 = some ((21, a), gI D 1024 (aP M)) := by rw [eh_1]; exact g_uk f3 f10 (show (21 : Nat) ≠ 26 by decide)
    have f_4 : h_1 p4 = some ((22, a), gI D 1024 (aB M)) := by rw [eh_1]; exact g_uk f4 f10 (show (22 : Nat) ≠ 26 by decide)
    have f_5 : h_1 p6 = some ((23, a), gI D 17408 (aY M)) := by rw [eh_1]; exact g_uk f6 f10 (show (23 : Nat) ≠ 26 by decide)
    have f_6 : h_1 p7 = some ((24, a), gL D 17408 (aG M)) := by rw [eh_1]; exact g_uk f7 f10 (show (24 : Nat) ≠ 26 by decide)
    have f_7 : h_1 p9 = some ((25, a), gI D 65536 (aC M)) := by rw [eh_1]; exact g_uk f9 f10 (show (25 : Nat) ≠ 26 by decide)
    have f_8 : h_1 p10 = some ((26, a), gI D 64 (va_up (aT M) (yn) (totB QQ.1 n))) := by rw [eh_1]; exact g_us
    have f_9 : h_1 p11 = some ((27, a), gL D 64 (va_up (aL M) yn (QQ.2.2.1))) := by rw [eh_1]; exact g_uk f11 f10 (show (27 : Nat) ≠ 26 by decide)
    have f_10 : h_1 p12 = some ((28, a), gI D 64 (va_up (aM M) yn (QQ.2.2.2))) := by rw [eh_1]; exact g_uk f12 f10 (show (28 : Nat) ≠ 26 by decide)
    have f_11 : h_1 p13 = some ((29, a), gI D 1024 (kk_)) := by rw [eh_1]; exact g_uk f13 f10 (show (29 : Nat) ≠ 26 by decide)
    have f_12 : h_1 p14 = some ((30, a), gI D 1024 (xx_)) := by rw [eh_1]; exact g_uk f14 f10 (show (30 : Nat) ≠ 26 by decide)
    have hk_13 := kp_up (hkk) eh_1 f10 (⟨Nat.le_of_ble_eq_true rfl, Nat.le_of_ble_eq_true rfl⟩)
    refine g_1 (fun w => lv_iconst (v := iZ 0) X.1 X.2.1 d_MD_layer_203 rfl w) ?_
    refine g_s (fun kk => lv_istore (lv' := [(4, .int (iZ (0))), (0, .ref a)]) X.1 X.2.1 d_MD_layer_204 hl (by decide) rfl kk) (fun ls hl => ?_)
    exact loop3 n 0 h_1 (aC M) ls (by omega) ⟨p3, p4, p6, p7, p9, p10, p11, p12, p13, p14, f_2, f_3, f_4, f_5, f_6, f_7, f_8, f_9, f_10, f_11, f_12⟩ (fun b hb => absurd hb (Nat.not_lt_zero _)) (fun j hj => rfl) hk_13 (lv_sub hl [0, 1] rfl)
  have loop1 : ∀ (d i : Nat) (hh : gH) (kk_ xx_ : Nat → Int) (ls : Array Slot), i + d = n → yn < 64 → -1 ≤ bud → isMD D hh a (mKX (mLM (0, M.2) (va_up (aL M) yn (-1)) (va_up (aM M) yn (-1))) kk_ xx_) → cV (mKX (mLM (0, M.2) (va_up (aL M) yn (-1)) (va_up (aM M) yn (-1))) kk_ xx_) i (fun j => tka (bs j)) → kp P_MD h hh → lv_has ls 5 [(3, .int (iZ (i))), (2, .int (iZ (0))), (1, .int (iZ (bud))), (0, .ref a)] → G D s0 p l e ({ frames := 4, cells := 0, slots := 0, locals := 96 } : Room) s m ([.ref a, .int (iZ (bud))] : List Value).toArray below meth c hh 0 0 (MQ below (gQ D s0 (fun v h' => ∃ t r : Int, some (.int (iZ r)) = v ∧ kp P_MD h h' ∧ ((bud < -1 ∧ t = 1 ∧ isMD D h' a (1, M.2)) ∨ (-1 ≤ bud ∧ ¬ yn < 64 ∧ t = 2 ∧ isMD D h' a (2, M.2)) ∨ (-1 ≤ bud ∧ yn < 64 ∧ t = 0 ∧ r = QQ.2.1 ∧ ∃ C' k x : Nat → Int, (∀ b, b < n → C' (1024 * yn + b) = bL (QQ.1 b)) ∧ (∀ j, j < 1024 * yn → C' j = aC M j) ∧ isMD D h' a (0, mN M, mA M, mU M, mY M + 1, aP M, aB M, aY M, aG M, C', va_up (aT M) yn (totB QQ.1 n), va_up (aL M) yn QQ.2.2.1, va_up (aM M) yn QQ.2.2.2, k, x))))) ([.ref a, .int (iZ (bud))] : List Value).toArray s 0 0 (fun q => s0.heap.size ≤ q)) (F0 m 63 ls []) := by
    intro d
    induction d with
    | zero =>
      intro i hh kk_ xx_ ls hi hy64 hbm hm2 hc2 hkk hl
      obtain ⟨p3, p4, p6, p7, p9, p10, p11, p12, p13, p14, f0, f3, f4, f6, f7, f9, f10, f11, f12, f13, f14⟩ := id hm2
      have f0 : hh a = some ((20, 0), .inr (4, [.int (iZ (0)), .int (iZ (mN M)), .int (iZ (mA M)), .ref p3, .ref p4, .int (iZ (mU M)), .ref p6, .ref p7, .int (iZ (mY M)), .ref p9, .ref p10, .ref p11, .ref p12, .ref p13, .ref p14])) := f0
      have f3 : hh p3 = some ((21, a), gI D 1024 (aP M)) := f3
      have f4 : hh p4 = some ((22, a), gI D 1024 (aB M)) := f4
      have f6 : hh p6 = some ((23, a), gI D 17408 (aY M)) := f6
      have f7 : hh p7 = some ((24, a), gL D 17408 (aG M)) := f7
      have f9 : hh p9 = some ((25, a), gI D 65536 (aC M)) := f9
      have f10 : hh p10 = some ((26, a), gI D 64 (aT M)) := f10
      have f11 : hh p11 = some ((27, a), gL D 64 (va_up (aL M) yn (-1))) := f11
      have f12 : hh p12 = some ((28, a), gI D 64 (va_up (aM M) yn (-1))) := f12
      have f13 : hh p13 = some ((29, a), gI D 1024 (kk_)) := f13
      have f14 : hh p14 = some ((30, a), gI D 1024 (xx_)) := f14
      have hei : i = n := by omega
      subst hei
      have hc0 := hc2
      have hv0 : mV M i (fun j => tka (bs j)) := mV_congr hv (fun _ _ => ⟨rfl, rfl, rfl⟩)
      have hw0 : ∀ j, j < i → wfC (tka (bs j)) := fun j hj => wfC_tka (hw j hj)
      have hs0 : stp (fun j => tka (bs j)) i = 0 := stp_no (fun j hj => Nat.lt_irrefl _)
      have hQn : QQ = (fun j => tka (bs j), sm (fun j => bB (bs j) (bP (bs j))) i, -1, -1) := hQQ.trans (if_pos hbd)
      refine g_1 (fun w => lv_iload_n X.1 X.2.1 d_MD_layer_63 rfl (lv_at hl 0 rfl) w) ?_
      refine g_1 (fun w => lv_aload_n X.1 X.2.1 d_MD_layer_64 rfl (lv_at hl 3 rfl) w) ?_
      refine g_get X (ci := 4) rfl f0 1 (by decide) ⟨rfl, rfl⟩ tw_503 (Or.inl rfl) rfl d_MD_layer_65 ?_
      refine g_icmp_ge (tgt := 151) X (by first | exact ⟨by omega, by omega⟩ | (split <;> exact ⟨by omega, by omega⟩) | exact cmpZ_ok _ _ | exact mul_ok (by omega) (by omega) (by omega) (by omega)) (by first | exact ⟨by omega, by omega⟩ | (split <;> exact ⟨by omega, by omega⟩) | exact cmpZ_ok _ _ | exact mul_ok (by omega) (by omega) (by omega) (by omega)) d_MD_layer_68 (by decide) (fun c68 => ?_) (fun c68 => ?_)
      · refine g_1 (fun w => lv_aload_n X.1 X.2.1 d_MD_layer_151 rfl (lv_at hl 3 rfl) w) ?_
        refine g_callV (na := 0) X (c_MD_steepest B0 hm2 (mV_kx hv0) hw0 hc0) rfl f0 rfl ⟨⟨tw_613, tw_5⟩, ⟨by decide, by decide, by decide +kernel⟩, by decide, by decide⟩ tw_610 tw_612 ts_MD_steepest rfl hl.1 (Nat.le_of_ble_eq_true rfl) ⟨by decide, by decide⟩ d_MD_layer_152 (fun v h' hp => ?_)
        obtain ⟨rfl, rfl⟩ := hp
        refine g_widen (k' := 0) (n' := 0) (by decide) (by decide) ?_
        show G D s0 p l e _ s m _ below meth c hh _ _ _ (F0 m 155 ls [.int (iZ ((stp (fun j => tka (bs j)) i : Int) - 1))])
        refine g_s (fun kk => lv_istore_n (lv' := [(3, .int (iZ ((stp (fun j => tka (bs j)) i : Int) - 1))), (2, .int (iZ (0))), (1, .int (iZ (bud))), (0, .ref a)]) X.1 X.2.1 d_MD_layer_155 rfl hl (by decide) rfl kk) (fun ls hl => ?_)
        refine g_1 (fun w => lv_iload_n X.1 X.2.1 d_MD_layer_156 rfl (lv_at hl 0 rfl) w) ?_
        refine g_if_lt (tgt := 190) X (by first | exact ⟨by omega, by omega⟩ | (split <;> exact ⟨by omega, by omega⟩) | exact cmpZ_ok _ _ | exact mul_ok (by omega) (by omega) (by omega) (by omega)) d_MD_layer_157 (by decide) (fun c157 => ?_) (fun c157 => ?_)
        · exact tail hh kk_ xx_ ls hy64 hbm (by rw [hQn]; exact hm2) (by rw [hQn]; exact hc0) hkk (lv_sub hl [3] rfl)
        · exfalso
          omega
      · exfalso
        omega
    | succ d ih =>
      intro i hh kk_ xx_ ls hi hy64 hbm hm2 hc2 hkk hl
      obtain ⟨p3, p4, p6, p7, p9, p10, p11, p12, p13, p14, f0, f3, f4, f6, f7, f9, f10, f11, f12, f13, f14⟩ := id hm2
      have f0 : hh a = some ((20, 0), .inr (4, [.int (iZ (0)), .int (iZ (mN M)), .int (iZ (mA M)), .ref p3, .ref p4, .int (iZ (mU M)), .ref p6, .ref p7, .int (iZ (mY M)), .ref p9, .ref p10, .ref p11, .ref p12, .ref p13, .ref p14])) := f0
      have f3 : hh p3 = some ((21, a), gI D 1024 (aP M)) := f3
      have f4 : hh p4 = some ((22, a), gI D 1024 (aB M)) := f4
      have f6 : hh p6 = some ((23, a), gI D 17408 (aY M)) := f6
      have f7 : hh p7 = some ((24, a), gL D 17408 (aG M)) := f7
      have f9 : hh p9 = some ((25, a), gI D 65536 (aC M)) := f9
      have f10 : hh p10 = some ((26, a), gI D 64 (aT M)) := f10
      have f11 : hh p11 = some ((27, a), gL D 64 (va_up (aL M) yn (-1))) := f11
      have f12 : hh p12 = some ((28, a), gI D 64 (va_up (aM M) yn (-1))) := f12
      have f13 : hh p13 = some ((29, a), gI D 1024 (kk_)) := f13
      have f14 : hh p14 = some ((30, a), gI D 1024 (xx_)) := f14
      have hw1 := hw i (by omega)
      have k4 := hw1.1.1.2.2.2.1
      refine g_1 (fun w => lv_iload_n X.1 X.2.1 d_MD_layer_63 rfl (lv_at hl 0 rfl) w) ?_
      refine g_1 (fun w => lv_aload_n X.1 X.2.1 d_MD_layer_64 rfl (lv_at hl 3 rfl) w) ?_
      refine g_get X (ci := 4) rfl f0 1 (by decide) ⟨rfl, rfl⟩ tw_503 (Or.inl rfl) rfl d_MD_layer_65 ?_
      refine g_icmp_ge (tgt := 151) X (by first | exact ⟨by omega, by omega⟩ | (split <;> exact ⟨by omega, by omega⟩) | exact cmpZ_ok _ _ | exact mul_ok (by omega) (by omega) (by omega) (by omega)) (by first | exact ⟨by omega, by omega⟩ | (split <;> exact ⟨by omega, by omega⟩) | exact cmpZ_ok _ _ | exact mul_ok (by omega) (by omega) (by omega) (by omega)) d_MD_layer_68 (by decide) (fun c68 => ?_) (fun c68 => ?_)
      · exfalso
        omega
      · refine g_1 (fun w => lv_aload_n X.1 X.2.1 d_MD_layer_71 rfl (lv_at hl 3 rfl) w) ?_
        refine g_get X (ci := 4) rfl f0 13 (by decide) ⟨rfl, rfl⟩ tw_515 (Or.inl rfl) rfl d_MD_layer_72 ?_
        refine g_1 (fun w => lv_iload_n X.1 X.2.1 d_MD_layer_75 rfl (lv_at hl 0 rfl) w) ?_
        refine g_1 (fun w => lv_iload_n X.1 X.2.1 d_MD_layer_76 rfl (lv_at hl 2 rfl) w) ?_
        refine g_1 (fun w => lv_iconst (v := iZ (-1)) X.1 X.2.1 d_MD_layer_77 rfl w) ?_
        refine g_icmp_ne (tgt := 90) X (by first | exact ⟨by omega, by omega⟩ | (split <;> exact ⟨by omega, by omega⟩) | exact cmpZ_ok _ _ | exact mul_ok (by omega) (by omega) (by omega) (by omega)) (by first | exact ⟨by omega, by omega⟩ | (split <;> exact ⟨by omega, by omega⟩) | exact cmpZ_ok _ _ | exact mul_ok (by omega) (by omega) (by omega) (by omega)) d_MD_layer_78 (by decide) (fun c78 => ?_) (fun c78 => ?_)
        · exact absurd hbd c78
        · refine g_1 (fun w => lv_aload_n X.1 X.2.1 d_MD_layer_81 rfl (lv_at hl 3 rfl) w) ?_
          refine g_get X (ci := 4) rfl f0 3 (by decide) ⟨rfl, rfl⟩ tw_505 (Or.inl rfl) rfl d_MD_layer_82 ?_
          refine g_1 (fun w => lv_iload_n X.1 X.2.1 d_MD_layer_85 rfl (lv_at hl 0 rfl) w) ?_
          refine g_ild X f3 (i) (rfl) (by omega) (by omega) d_MD_layer_86 ?_
          refine g_goto (tgt := 118) X d_MD_layer_87 (by decide) ?_
          refine g_ti (congrArg iZ (show (aP M i : Int) = bP (bs i) from (v5 i (by omega)).1)) ?_
          refine g_ist X f13 (Nat.succ_ne_zero _) (i) (rfl) (by omega) (by omega) d_MD_layer_118 ?_
          obtain ⟨h_1, eh_1⟩ : ∃ z, z = g_up hh p13 ((29, a), gI D 1024 (va_up (kk_) (i) (bP (bs i)))) := ⟨_, rfl⟩
          refine g_h (h' := h_1) eh_1.symm ?_
          have f_2 : h_1 a = some ((20, 0), .inr (4, [.int (iZ (0)), .int (iZ (mN M)), .int (iZ (mA M)), .ref p3, .ref p4, .int (iZ (mU M)), .ref p6, .ref p7, .int (iZ (mY M)), .ref p9, .ref p10, .ref p11, .ref p12, .ref p13, .ref p14])) := by rw [eh_1]; exact g_uk f0 f13 (show (20 : Nat) ≠ 29 by decide)
          have f_3 : h_1 p3 = some ((21, a), gI D 1024 (aP M)) := by rw [eh_1]; exact g_uk f3 f13 (show (21 : Nat) ≠ 29 by decide)
          have f_4 : h_1 p4 = some ((22, a), gI D 1024 (aB M)) := by rw [eh_1]; exact g_uk f4 f13 (show (22 : Nat) ≠ 29 by decide)
          have f_5 : h_1 p6 = some ((23, a), gI D 17408 (aY M)) := by rw [eh_1]; exact g_uk f6 f13 (show (23 : Nat) ≠ 29 by decide)
          have f_6 : h_1 p7 = some ((24, a), gL D 17408 (aG M)) := by rw [eh_1]; exact g_uk f7 f13 (show (24 : Nat) ≠ 29 by decide)
          have f_7 : h_1 p9 = some ((25, a), gI D 65536 (aC M)) := by rw [eh_1]; exact g_uk f9 f13 (show (25 : Nat) ≠ 29 by decide)
          have f_8 : h_1 p10 = some ((26, a), gI D 64 (aT M)) := by rw [eh_1]; exact g_uk f10 f13 (show (26 : Nat) ≠ 29 by decide)
          have f_9 : h_1 p11 = some ((27, a), gL D 64 (va_up (aL M) yn (-1))) := by rw [eh_1]; exact g_uk f11 f13 (show (27 : Nat) ≠ 29 by decide)
          have f_10 : h_1 p12 = some ((28, a), gI D 64 (va_up (aM M) yn (-1))) := by rw [eh_1]; exact g_uk f12 f13 (show (28 : Nat) ≠ 29 by decide)
          have f_11 : h_1 p13 = some ((29, a), gI D 1024 (va_up (kk_) (i) (bP (bs i)))) := by rw [eh_1]; exact g_us
          have f_12 : h_1 p14 = some ((30, a), gI D 1024 (xx_)) := by rw [eh_1]; exact g_uk f14 f13 (show (30 : Nat) ≠ 29 by decide)
          have hk_13 := kp_up (hkk) eh_1 f13 (⟨Nat.le_of_ble_eq_true rfl, Nat.le_of_ble_eq_true rfl⟩)
          refine g_1 (fun w => lv_aload_n X.1 X.2.1 d_MD_layer_119 rfl (lv_at hl 3 rfl) w) ?_
          refine g_get X (ci := 4) rfl f_2 14 (by decide) ⟨rfl, rfl⟩ tw_516 (Or.inl rfl) rfl d_MD_layer_120 ?_
          refine g_1 (fun w => lv_iload_n X.1 X.2.1 d_MD_layer_123 rfl (lv_at hl 0 rfl) w) ?_
          refine g_1 (fun w => lv_iload_n X.1 X.2.1 d_MD_layer_124 rfl (lv_at hl 2 rfl) w) ?_
          refine g_1 (fun w => lv_iconst (v := iZ (-1)) X.1 X.2.1 d_MD_layer_125 rfl w) ?_
          refine g_icmp_ne (tgt := 133) X (by first | exact ⟨by omega, by omega⟩ | (split <;> exact ⟨by omega, by omega⟩) | exact cmpZ_ok _ _ | exact mul_ok (by omega) (by omega) (by omega) (by omega)) (by first | exact ⟨by omega, by omega⟩ | (split <;> exact ⟨by omega, by omega⟩) | exact cmpZ_ok _ _ | exact mul_ok (by omega) (by omega) (by omega) (by omega)) d_MD_layer_126 (by decide) (fun c126 => ?_) (fun c126 => ?_)
          · exact absurd hbd c126
          · refine g_1 (fun w => lv_iconst (v := iZ (-1)) X.1 X.2.1 d_MD_layer_129 rfl w) ?_
            refine g_goto (tgt := 144) X d_MD_layer_130 (by decide) ?_
            refine g_ist X f_12 (Nat.succ_ne_zero _) (i) (rfl) (by omega) (by omega) d_MD_layer_144 ?_
            obtain ⟨h_14, eh_14⟩ : ∃ z, z = g_up h_1 p14 ((30, a), gI D 1024 (va_up (xx_) (i) ((-1)))) := ⟨_, rfl⟩
            refine g_h (h' := h_14) eh_14.symm ?_
            have f_15 : h_14 a = some ((20, 0), .inr (4, [.int (iZ (0)), .int (iZ (mN M)), .int (iZ (mA M)), .ref p3, .ref p4, .int (iZ (mU M)), .ref p6, .ref p7, .int (iZ (mY M)), .ref p9, .ref p10, .ref p11, .ref p12, .ref p13, .ref p14])) := by rw [eh_14]; exact g_uk f_2 f_12 (show (20 : Nat) ≠ 30 by decide)
            have f_16 : h_14 p3 = some ((21, a), gI D 1024 (aP M)) := by rw [eh_14]; exact g_uk f_3 f_12 (show (21 : Nat) ≠ 30 by decide)
            have f_17 : h_14 p4 = some ((22, a), gI D 1024 (aB M)) := by rw [eh_14]; exact g_uk f_4 f_12 (show (22 : Nat) ≠ 30 by decide)
            have f_18 : h_14 p6 = some ((23, a), gI D 17408 (aY M)) := by rw [eh_14]; exact g_uk f_5 f_12 (show (23 : Nat) ≠ 30 by decide)
            have f_19 : h_14 p7 = some ((24, a), gL D 17408 (aG M)) := by rw [eh_14]; exact g_uk f_6 f_12 (show (24 : Nat) ≠ 30 by decide)
            have f_20 : h_14 p9 = some ((25, a), gI D 65536 (aC M)) := by rw [eh_14]; exact g_uk f_7 f_12 (show (25 : Nat) ≠ 30 by decide)
            have f_21 : h_14 p10 = some ((26, a), gI D 64 (aT M)) := by rw [eh_14]; exact g_uk f_8 f_12 (show (26 : Nat) ≠ 30 by decide)
            have f_22 : h_14 p11 = some ((27, a), gL D 64 (va_up (aL M) yn (-1))) := by rw [eh_14]; exact g_uk f_9 f_12 (show (27 : Nat) ≠ 30 by decide)
            have f_23 : h_14 p12 = some ((28, a), gI D 64 (va_up (aM M) yn (-1))) := by rw [eh_14]; exact g_uk f_10 f_12 (show (28 : Nat) ≠ 30 by decide)
            have f_24 : h_14 p13 = some ((29, a), gI D 1024 (va_up (kk_) (i) (bP (bs i)))) := by rw [eh_14]; exact g_uk f_11 f_12 (show (29 : Nat) ≠ 30 by decide)
            have f_25 : h_14 p14 = some ((30, a), gI D 1024 (va_up (xx_) (i) ((-1)))) := by rw [eh_14]; exact g_us
            have hk_26 := kp_up (hk_13) eh_14 f_12 (⟨Nat.le_of_ble_eq_true rfl, Nat.le_of_ble_eq_true rfl⟩)
            refine g_s (fun kk => lv_iinc (v := iZ (i + 1)) (lv' := [(3, .int (iZ (i + 1))), (2, .int (iZ (0))), (1, .int (iZ (bud))), (0, .ref a)]) X.1 X.2.1 d_MD_layer_145 hl (k := 0) rfl (iZ_add _ _) (by decide) rfl kk) (fun ls hl => ?_)
            refine g_goto (tgt := 63) X d_MD_layer_148 (by decide) ?_
            exact ih (i + 1) h_14 (va_up (kk_) (i) (bP (bs i))) (va_up (xx_) (i) ((-1))) ls (by omega) hy64 hbm ⟨p3, p4, p6, p7, p9, p10, p11, p12, p13, p14, f_15, f_16, f_17, f_18, f_19, f_20, f_21, f_22, f_23, f_24, f_25⟩ (cV_snoc hc2 rfl (if_neg (Nat.lt_irrefl _)).symm) hk_26 (lv_sub hl [0, 1, 2, 3] rfl)
  refine g_1 (fun w => lv_iload_n X.1 X.2.1 d_MD_layer_0 rfl (lv_at hl 1 rfl) w) ?_
  refine g_1 (fun w => lv_iconst (v := iZ (-1)) X.1 X.2.1 d_MD_layer_1 rfl w) ?_
  refine g_icmp_ge (tgt := 9) X (by first | exact ⟨by omega, by omega⟩ | (split <;> exact ⟨by omega, by omega⟩) | exact cmpZ_ok _ _ | exact mul_ok (by omega) (by omega) (by omega) (by omega)) (by first | exact ⟨by omega, by omega⟩ | (split <;> exact ⟨by omega, by omega⟩) | exact cmpZ_ok _ _ | exact mul_ok (by omega) (by omega) (by omega) (by omega)) d_MD_layer_2 (by decide) (fun c2 => ?_) (fun c2 => ?_)
  · refine g_1 (fun w => lv_iconst (v := iZ 0) X.1 X.2.1 d_MD_layer_9 rfl w) ?_
    refine g_s (fun kk => lv_istore_n (lv' := [(2, .int (iZ (0))), (0, .ref a), (1, .int (iZ (bud)))]) X.1 X.2.1 d_MD_layer_10 rfl hl (by decide) rfl kk) (fun ls hl => ?_)
    refine g_1 (fun w => lv_aload_n X.1 X.2.1 d_MD_layer_11 rfl (lv_at hl 1 rfl) w) ?_
    refine g_1 (fun w => lv_iload_n X.1 X.2.1 d_MD_layer_12 rfl (lv_at hl 0 rfl) w) ?_
    refine g_1 (fun w => lv_iload_n X.1 X.2.1 d_MD_layer_13 rfl (lv_at hl 0 rfl) w) ?_
    refine g_if_ne (tgt := 30) X (by first | exact ⟨by omega, by omega⟩ | (split <;> exact ⟨by omega, by omega⟩) | exact cmpZ_ok _ _ | exact mul_ok (by omega) (by omega) (by omega) (by omega)) d_MD_layer_14 (by decide) (fun c14 => ?_) (fun c14 => ?_)
    · exact absurd c14 (by decide)
    · refine g_1 (fun w => lv_aload_n X.1 X.2.1 d_MD_layer_17 rfl (lv_at hl 1 rfl) w) ?_
      refine g_get X (ci := 4) rfl f0 8 (by decide) ⟨rfl, rfl⟩ tw_510 (Or.inl rfl) rfl d_MD_layer_18 ?_
      refine g_1 (fun w => lv_bipush (v := iZ 64) X.1 X.2.1 d_MD_layer_21 (by decide) w) ?_
      refine g_icmp_ne (tgt := 30) X (by first | exact ⟨by omega, by omega⟩ | (split <;> exact ⟨by omega, by omega⟩) | exact cmpZ_ok _ _ | exact mul_ok (by omega) (by omega) (by omega) (by omega)) (by first | exact ⟨by omega, by omega⟩ | (split <;> exact ⟨by omega, by omega⟩) | exact cmpZ_ok _ _ | exact mul_ok (by omega) (by omega) (by omega) (by omega)) d_MD_layer_23 (by decide) (fun c23 => ?_) (fun c23 => ?_)
      · refine g_1 (fun w => lv_iconst (v := iZ 0) X.1 X.2.1 d_MD_layer_30 rfl w) ?_
        refine g_callV (na := 2) X (c_MD_throwing B0 hm ⟨by omega, by omega⟩ ⟨by omega, by omega⟩ (t := 0) (by decide) (r := 0) (by decide)) rfl f0 rfl ⟨⟨tw_563, tw_5⟩, ⟨by decide, by decide, by decide +kernel⟩, by decide, by decide⟩ tw_560 tw_562 ts_MD_throwing rfl hl.1 (Nat.le_of_ble_eq_true rfl) ⟨by decide, by decide⟩ d_MD_layer_31 (fun v h_1 hp => ?_)
        obtain ⟨rfl, hm, hkT⟩ := hp
        obtain ⟨p3, p4, p6, p7, p9, p10, p11, p12, p13, p14, f0, f3, f4, f6, f7, f9, f10, f11, f12, f13, f14⟩ := id hm
        refine g_widen (k' := 0) (n' := 0) (by decide) (by decide) ?_
        show G D s0 p l e _ s m _ below meth c h_1 _ _ _ (F0 m 34 ls [.int (iZ (0))])
        refine g_if_eq (tgt := 39) X (by first | exact ⟨by omega, by omega⟩ | (split <;> exact ⟨by omega, by omega⟩) | exact cmpZ_ok _ _ | exact mul_ok (by omega) (by omega) (by omega) (by omega)) d_MD_layer_34 (by decide) (fun c34 => ?_) (fun c34 => ?_)
        · refine g_1 (fun w => lv_aload_n X.1 X.2.1 d_MD_layer_39 rfl (lv_at hl 1 rfl) w) ?_
          refine g_get X (ci := 4) rfl f0 11 (by decide) ⟨rfl, rfl⟩ tw_513 (Or.inl rfl) rfl d_MD_layer_40 ?_
          refine g_1 (fun w => lv_aload_n X.1 X.2.1 d_MD_layer_43 rfl (lv_at hl 1 rfl) w) ?_
          refine g_get X (ci := 4) rfl f0 8 (by decide) ⟨rfl, rfl⟩ tw_510 (Or.inl rfl) rfl d_MD_layer_44 ?_
          refine g_1 (fun w => lv_ldc2 X.1 X.2.1 X.2.2.2.2.2.1 (X.w tw_609 rfl) d_MD_layer_47 w) ?_
          refine g_tl (show _ = lZ (-1) by decide) ?_
          refine g_lst X f11 (Nat.succ_ne_zero _) (yn) (l1) (by omega) (by omega) d_MD_layer_50 ?_
          obtain ⟨h_2, eh_2⟩ : ∃ z, z = g_up h_1 p11 ((27, a), gL D 64 (va_up (aL M) (yn) ((-1)))) := ⟨_, rfl⟩
          refine g_h (h' := h_2) eh_2.symm ?_
          have f_3 : h_2 a = some ((20, 0), .inr (4, [.int (iZ (0)), .int (iZ (mN M)), .int (iZ (mA M)), .ref p3, .ref p4, .int (iZ (mU M)), .ref p6, .ref p7, .int (iZ (mY M)), .ref p9, .ref p10, .ref p11, .ref p12, .ref p13, .ref p14])) := by rw [eh_2]; exact g_uk f0 f11 (show (20 : Nat) ≠ 27 by decide)
          have f_4 : h_2 p3 = some ((21, a), gI D 1024 (aP M)) := by rw [eh_2]; exact g_uk f3 f11 (show (21 : Nat) ≠ 27 by decide)
          have f_5 : h_2 p4 = some ((22, a), gI D 1024 (aB M)) := by rw [eh_2]; exact g_uk f4 f11 (show (22 : Nat) ≠ 27 by decide)
          have f_6 : h_2 p6 = some ((23, a), gI D 17408 (aY M)) := by rw [eh_2]; exact g_uk f6 f11 (show (23 : Nat) ≠ 27 by decide)
          have f_7 : h_2 p7 = some ((24, a), gL D 17408 (aG M)) := by rw [eh_2]; exact g_uk f7 f11 (show (24 : Nat) ≠ 27 by decide)
          have f_8 : h_2 p9 = some ((25, a), gI D 65536 (aC M)) := by rw [eh_2]; exact g_uk f9 f11 (show (25 : Nat) ≠ 27 by decide)
          have f_9 : h_2 p10 = some ((26, a), gI D 64 (aT M)) := by rw [eh_2]; exact g_uk f10 f11 (show (26 : Nat) ≠ 27 by decide)
          have f_10 : h_2 p11 = some ((27, a), gL D 64 (va_up (aL M) (yn) ((-1)))) := by rw [eh_2]; exact g_us
          have f_11 : h_2 p12 = some ((28, a), gI D 64 (aM M)) := by rw [eh_2]; exact g_uk f12 f11 (show (28 : Nat) ≠ 27 by decide)
          have f_12 : h_2 p13 = some ((29, a), gI D 1024 (aK M)) := by rw [eh_2]; exact g_uk f13 f11 (show (29 : Nat) ≠ 27 by decide)
          have f_13 : h_2 p14 = some ((30, a), gI D 1024 (aX M)) := by rw [eh_2]; exact g_uk f14 f11 (show (30 : Nat) ≠ 27 by decide)
          have hk_14 := kp_up (hkT) eh_2 f11 (⟨Nat.le_of_ble_eq_true rfl, Nat.le_of_ble_eq_true rfl⟩)
          refine g_1 (fun w => lv_aload_n X.1 X.2.1 d_MD_layer_51 rfl (lv_at hl 1 rfl) w) ?_
          refine g_get X (ci := 4) rfl f_3 12 (by decide) ⟨rfl, rfl⟩ tw_514 (Or.inl rfl) rfl d_MD_layer_52 ?_
          refine g_1 (fun w => lv_aload_n X.1 X.2.1 d_MD_layer_55 rfl (lv_at hl 1 rfl) w) ?_
          refine g_get X (ci := 4) rfl f_3 8 (by decide) ⟨rfl, rfl⟩ tw_510 (Or.inl rfl) rfl d_MD_layer_56 ?_
          refine g_1 (fun w => lv_iconst (v := iZ (-1)) X.1 X.2.1 d_MD_layer_59 rfl w) ?_
          refine g_ist X f_11 (Nat.succ_ne_zero _) (yn) (l1) (by omega) (by omega) d_MD_layer_60 ?_
          obtain ⟨h_15, eh_15⟩ : ∃ z, z = g_up h_2 p12 ((28, a), gI D 64 (va_up (aM M) (yn) ((-1)))) := ⟨_, rfl⟩
          refine g_h (h' := h_15) eh_15.symm ?_
          have f_16 : h_15 a = some ((20, 0), .inr (4, [.int (iZ (0)), .int (iZ (mN M)), .int (iZ (mA M)), .ref p3, .ref p4, .int (iZ (mU M)), .ref p6, .ref p7, .int (iZ (mY M)), .ref p9, .ref p10, .ref p11, .ref p12, .ref p13, .ref p14])) := by rw [eh_15]; exact g_uk f_3 f_11 (show (20 : Nat) ≠ 28 by decide)
          have f_17 : h_15 p3 = some ((21, a), gI D 1024 (aP M)) := by rw [eh_15]; exact g_uk f_4 f_11 (show (21 : Nat) ≠ 28 by decide)
          have f_18 : h_15 p4 = some ((22, a), gI D 1024 (aB M)) := by rw [eh_15]; exact g_uk f_5 f_11 (show (22 : Nat) ≠ 28 by decide)
          have f_19 : h_15 p6 = some ((23, a), gI D 17408 (aY M)) := by rw [eh_15]; exact g_uk f_6 f_11 (show (23 : Nat) ≠ 28 by decide)
          have f_20 : h_15 p7 = some ((24, a), gL D 17408 (aG M)) := by rw [eh_15]; exact g_uk f_7 f_11 (show (24 : Nat) ≠ 28 by decide)
          have f_21 : h_15 p9 = some ((25, a), gI D 65536 (aC M)) := by rw [eh_15]; exact g_uk f_8 f_11 (show (25 : Nat) ≠ 28 by decide)
          have f_22 : h_15 p10 = some ((26, a), gI D 64 (aT M)) := by rw [eh_15]; exact g_uk f_9 f_11 (show (26 : Nat) ≠ 28 by decide)
          have f_23 : h_15 p11 = some ((27, a), gL D 64 (va_up (aL M) (yn) ((-1)))) := by rw [eh_15]; exact g_uk f_10 f_11 (show (27 : Nat) ≠ 28 by decide)
          have f_24 : h_15 p12 = some ((28, a), gI D 64 (va_up (aM M) (yn) ((-1)))) := by rw [eh_15]; exact g_us
          have f_25 : h_15 p13 = some ((29, a), gI D 1024 (aK M)) := by rw [eh_15]; exact g_uk f_12 f_11 (show (29 : Nat) ≠ 28 by decide)
          have f_26 : h_15 p14 = some ((30, a), gI D 1024 (aX M)) := by rw [eh_15]; exact g_uk f_13 f_11 (show (30 : Nat) ≠ 28 by decide)
          have hk_27 := kp_up (hk_14) eh_15 f_11 (⟨Nat.le_of_ble_eq_true rfl, Nat.le_of_ble_eq_true rfl⟩)
          refine g_1 (fun w => lv_iconst (v := iZ 0) X.1 X.2.1 d_MD_layer_61 rfl w) ?_
          refine g_s (fun kk => lv_istore_n (lv' := [(3, .int (iZ (0))), (2, .int (iZ (0))), (0, .ref a), (1, .int (iZ (bud)))]) X.1 X.2.1 d_MD_layer_62 rfl hl (by decide) rfl kk) (fun ls hl => ?_)
          exact loop1 n 0 h_15 (aK M) (aX M) ls (by omega) (by omega) (by omega) ⟨p3, p4, p6, p7, p9, p10, p11, p12, p13, p14, f_16, f_17, f_18, f_19, f_20, f_21, f_22, f_23, f_24, f_25, f_26⟩ (fun b hb => absurd hb (Nat.not_lt_zero _)) hk_27 (lv_sub hl [0, 1, 3, 2] rfl)
        · exact absurd c34 (by decide)
      · refine g_1 (fun w => lv_iconst (v := iZ 1) X.1 X.2.1 d_MD_layer_26 rfl w) ?_
        refine g_goto (tgt := 31) X d_MD_layer_27 (by decide) ?_
        refine g_callV (na := 2) X (c_MD_throwing B0 hm ⟨by omega, by omega⟩ ⟨by omega, by omega⟩ (t := 2) (by decide) (r := 1) (by decide)) rfl f0 rfl ⟨⟨tw_563, tw_5⟩, ⟨by decide, by decide, by decide +kernel⟩, by decide, by decide⟩ tw_560 tw_562 ts_MD_throwing rfl hl.1 (Nat.le_of_ble_eq_true rfl) ⟨by decide, by decide⟩ d_MD_layer_31 (fun v h_28 hp => ?_)
        obtain ⟨rfl, hm, hkT⟩ := hp
        obtain ⟨p3, p4, p6, p7, p9, p10, p11, p12, p13, p14, f0, f3, f4, f6, f7, f9, f10, f11, f12, f13, f14⟩ := id hm
        refine g_widen (k' := 0) (n' := 0) (by decide) (by decide) ?_
        show G D s0 p l e _ s m _ below meth c h_28 _ _ _ (F0 m 34 ls [.int (iZ (1))])
        refine g_if_eq (tgt := 39) X (by first | exact ⟨by omega, by omega⟩ | (split <;> exact ⟨by omega, by omega⟩) | exact cmpZ_ok _ _ | exact mul_ok (by omega) (by omega) (by omega) (by omega)) d_MD_layer_34 (by decide) (fun c34 => ?_) (fun c34 => ?_)
        · exact absurd c34 (by decide)
        · refine g_1 (fun w => lv_iconst (v := iZ 0) X.1 X.2.1 d_MD_layer_37 rfl w) ?_
          exact g_iret X (⟨2, 0, rfl, hkT, Or.inr (Or.inl ⟨by omega, by omega, rfl, hm⟩)⟩) (by decide) (by decide) d_MD_layer_38
  · refine g_1 (fun w => lv_iconst (v := iZ 1) X.1 X.2.1 d_MD_layer_5 rfl w) ?_
    refine g_goto (tgt := 10) X d_MD_layer_6 (by decide) ?_
    refine g_s (fun kk => lv_istore_n (lv' := [(2, .int (iZ (1))), (0, .ref a), (1, .int (iZ (bud)))]) X.1 X.2.1 d_MD_layer_10 rfl hl (by decide) rfl kk) (fun ls hl => ?_)
    refine g_1 (fun w => lv_aload_n X.1 X.2.1 d_MD_layer_11 rfl (lv_at hl 1 rfl) w) ?_
    refine g_1 (fun w => lv_iload_n X.1 X.2.1 d_MD_layer_12 rfl (lv_at hl 0 rfl) w) ?_
    refine g_1 (fun w => lv_iload_n X.1 X.2.1 d_MD_layer_13 rfl (lv_at hl 0 rfl) w) ?_
    refine g_if_ne (tgt := 30) X (by first | exact ⟨by omega, by omega⟩ | (split <;> exact ⟨by omega, by omega⟩) | exact cmpZ_ok _ _ | exact mul_ok (by omega) (by omega) (by omega) (by omega)) d_MD_layer_14 (by decide) (fun c14 => ?_) (fun c14 => ?_)
    · refine g_1 (fun w => lv_iconst (v := iZ 0) X.1 X.2.1 d_MD_layer_30 rfl w) ?_
      refine g_callV (na := 2) X (c_MD_throwing B0 hm ⟨by omega, by omega⟩ ⟨by omega, by omega⟩ (t := 1) (by decide) (r := 1) (by decide)) rfl f0 rfl ⟨⟨tw_563, tw_5⟩, ⟨by decide, by decide, by decide +kernel⟩, by decide, by decide⟩ tw_560 tw_562 ts_MD_throwing rfl hl.1 (Nat.le_of_ble_eq_true rfl) ⟨by decide, by decide⟩ d_MD_layer_31 (fun v h_29 hp => ?_)
      obtain ⟨rfl, hm, hkT⟩ := hp
      obtain ⟨p3, p4, p6, p7, p9, p10, p11, p12, p13, p14, f0, f3, f4, f6, f7, f9, f10, f11, f12, f13, f14⟩ := id hm
      refine g_widen (k' := 0) (n' := 0) (by decide) (by decide) ?_
      show G D s0 p l e _ s m _ below meth c h_29 _ _ _ (F0 m 34 ls [.int (iZ (1))])
      refine g_if_eq (tgt := 39) X (by first | exact ⟨by omega, by omega⟩ | (split <;> exact ⟨by omega, by omega⟩) | exact cmpZ_ok _ _ | exact mul_ok (by omega) (by omega) (by omega) (by omega)) d_MD_layer_34 (by decide) (fun c34 => ?_) (fun c34 => ?_)
      · exact absurd c34 (by decide)
      · refine g_1 (fun w => lv_iconst (v := iZ 0) X.1 X.2.1 d_MD_layer_37 rfl w) ?_
        exact g_iret X (⟨1, 0, rfl, hkT, Or.inl ⟨by omega, rfl, hm⟩⟩) (by decide) (by decide) d_MD_layer_38
    · exact absurd c14 (by decide)

set_option maxHeartbeats 4000000 in
set_option maxRecDepth 100000 in
theorem c_MD_layerB {D : va_G} {s0 : State} {l : Launch} {h : gH} (B0 : gB D s0) {a n : Nat} {M : Mdl} {bs : Nat → Blk} (hm : isMD D h a M) (hv : mV M n bs) (hw : ∀ b, b < n → wfC (bs b)) {yn : Nat} (l1 : mY M = yn) (l2 : yn ≤ 64) (hcut : ∀ b, b < n → (yn = 0 → bL (bs b) = 0) ∧ (0 < yn → aC M (1024 * (yn - 1) + b) = bL (bs b))) {bud tb : Int} (hbu : i_ok bud) {N : Nat} (hrem : rem bs n ≤ N) (htb : tb = totB bs n) {QQ : Tkg} (hQQ : QQ = layQ n N bud bs tb) (hbd : bud ≠ -1) : gMet D s0 l y_MD_layer b_MD_layer 5 (some .int) ({ frames := 4, cells := 0, slots := 0, locals := 96 } : Room) [.ref a, .int (iZ (bud))] h (fun v h' => ∃ t r : Int, some (.int (iZ r)) = v ∧ kp P_MD h h' ∧ ((bud < -1 ∧ t = 1 ∧ isMD D h' a (1, M.2)) ∨ (-1 ≤ bud ∧ ¬ yn < 64 ∧ t = 2 ∧ isMD D h' a (2, M.2)) ∨ (-1 ≤ bud ∧ yn < 64 ∧ t = 0 ∧ r = QQ.2.1 ∧ ∃ C' k x : Nat → Int, (∀ b, b < n → C' (1024 * yn + b) = bL (QQ.1 b)) ∧ (∀ j, j < 1024 * yn → C' j = aC M j) ∧ isMD D h' a (0, mN M, mA M, mU M, mY M + 1, aP M, aB M, aY M, aG M, C', va_up (aT M) yn (totB QQ.1 n), va_up (aL M) yn QQ.2.2.1, va_up (aM M) yn QQ.2.2.2, k, x)))) := by
  obtain ⟨p3, p4, p6, p7, p9, p10, p11, p12, p13, p14, f0, f3, f4, f6, f7, f9, f10, f11, f12, f13, f14⟩ := id hm
  obtain ⟨v1, v2, v3, v4, v5⟩ := id hv
  obtain ⟨hbu1, hbu2⟩ := id hbu
  have hwQ : ∀ i, i < n → wfC (QQ.1 i) := by rw [hQQ]; exact lay_wfC hw
  have hvQ : mV M n QQ.1 := mV_congr hv (fun i hi => by rw [hQQ]; exact lay_BGP i)
  have htQ : QQ.2.1 = totB QQ.1 n := by rw [hQQ]; exact lay_tot hw htb
  refine g_enter B0 (plainFor_of_name (by decide)) (Nat.le_of_ble_eq_true rfl) (fun p e s m below meth c ls X hnm hl => ?_)
  have hl : lv_has ls 5 [(0, .ref a), (1, .int (iZ (bud)))] := hl
  have tail : ∀ (hh : gH) (kk_ xx_ : Nat → Int) (ls : Array Slot), yn < 64 → -1 ≤ bud → isMD D hh a (mKX (mLM (0, M.2) (va_up (aL M) yn (QQ.2.2.1)) (va_up (aM M) yn (QQ.2.2.2))) kk_ xx_) → cV (mKX (mLM (0, M.2) (va_up (aL M) yn (QQ.2.2.1)) (va_up (aM M) yn (QQ.2.2.2))) kk_ xx_) n QQ.1 → kp P_MD h hh → lv_has ls 5 [(0, .ref a)] → G D s0 p l e ({ frames := 4, cells := 0, slots := 0, locals := 96 } : Room) s m ([.ref a, .int (iZ (bud))] : List Value).toArray below meth c hh 0 0 (MQ below (gQ D s0 (fun v h' => ∃ t r : Int, some (.int (iZ r)) = v ∧ kp P_MD h h' ∧ ((bud < -1 ∧ t = 1 ∧ isMD D h' a (1, M.2)) ∨ (-1 ≤ bud ∧ ¬ yn < 64 ∧ t = 2 ∧ isMD D h' a (2, M.2)) ∨ (-1 ≤ bud ∧ yn < 64 ∧ t = 0 ∧ r = QQ.2.1 ∧ ∃ C' k x : Nat → Int, (∀ b, b < n → C' (1024 * yn + b) = bL (QQ.1 b)) ∧ (∀ j, j < 1024 * yn → C' j = aC M j) ∧ isMD D h' a (0, mN M, mA M, mU M, mY M + 1, aP M, aB M, aY M, aG M, C', va_up (aT M) yn (totB QQ.1 n), va_up (aL M) yn QQ.2.2.1, va_up (aM M) yn QQ.2.2.2, k, x))))) ([.ref a, .int (iZ (bud))] : List Value).toArray s 0 0 (fun q => s0.heap.size ≤ q)) (F0 m 190 ls []) := by
    intro hh kk_ xx_ ls hy64 hbm hmt hct hkk hl
    have loop3 : ∀ (d i : Nat) (hg : gH) (cc_ : Nat → Int) (ls : Array Slot), i + d = n → isMD D hg a (0, mN M, mA M, mU M, mY M, aP M, aB M, aY M, aG M, cc_, va_up (aT M) yn (totB QQ.1 n), va_up (aL M) yn (QQ.2.2.1), va_up (aM M) yn (QQ.2.2.2), kk_, xx_) → (∀ b, b < i → cc_ (1024 * yn + b) = bL (QQ.1 b)) → (∀ j, j < 1024 * yn → cc_ j = aC M j) → kp P_MD h hg → lv_has ls 5 [(4, .int (iZ (i))), (0, .ref a)] → G D s0 p l e ({ frames := 4, cells := 0, slots := 0, locals := 96 } : Room) s m ([.ref a, .int (iZ (bud))] : List Value).toArray below meth c hg 0 0 (MQ below (gQ D s0 (fun v h' => ∃ t r : Int, some (.int (iZ r)) = v ∧ kp P_MD h h' ∧ ((bud < -1 ∧ t = 1 ∧ isMD D h' a (1, M.2)) ∨ (-1 ≤ bud ∧ ¬ yn < 64 ∧ t = 2 ∧ isMD D h' a (2, M.2)) ∨ (-1 ≤ bud ∧ yn < 64 ∧ t = 0 ∧ r = QQ.2.1 ∧ ∃ C' k x : Nat → Int, (∀ b, b < n → C' (1024 * yn + b) = bL (QQ.1 b)) ∧ (∀ j, j < 1024 * yn → C' j = aC M j) ∧ isMD D h' a (0, mN M, mA M, mU M, mY M + 1, aP M, aB M, aY M, aG M, C', va_up (aT M) yn (totB QQ.1 n), va_up (aL M) yn QQ.2.2.1, va_up (aM M) yn QQ.2.2.2, k, x))))) ([.ref a, .int (iZ (bud))] : List Value).toArray s 0 0 (fun q => s0.heap.size ≤ q)) (F0 m 206 ls []) := by
      intro d
      induction d with
      | zero =>
        intro i hg cc_ ls hi hmg hcc hcd hkg hl
        obtain ⟨p3, p4, p6, p7, p9, p10, p11, p12, p13, p14, f0, f3, f4, f6, f7, f9, f10, f11, f12, f13, f14⟩ := id hmg
        have f0 : hg a = some ((20, 0), .inr (4, [.int (iZ (0)), .int (iZ (mN M)), .int (iZ (mA M)), .ref p3, .ref p4, .int (iZ (mU M)), .ref p6, .ref p7, .int (iZ (mY M)), .ref p9, .ref p10, .ref p11, .ref p12, .ref p13, .ref p14])) := f0
        have f3 : hg p3 = some ((21, a), gI D 1024 (aP M)) := f3
        have f4 : hg p4 = some ((22, a), gI D 1024 (aB M)) := f4
        have f6 : hg p6 = some ((23, a), gI D 17408 (aY M)) := f6
        have f7 : hg p7 = some ((24, a), gL D 17408 (aG M)) := f7
        have f9 : hg p9 = some ((25, a), gI D 65536 (cc_)) := f9
        have f10 : hg p10 = some ((26, a), gI D 64 (va_up (aT M) yn (totB QQ.1 n))) := f10
        have f11 : hg p11 = some ((27, a), gL D 64 (va_up (aL M) yn (QQ.2.2.1))) := f11
        have f12 : hg p12 = some ((28, a), gI D 64 (va_up (aM M) yn (QQ.2.2.2))) := f12
        have f13 : hg p13 = some ((29, a), gI D 1024 (kk_)) := f13
        have f14 : hg p14 = some ((30, a), gI D 1024 (xx_)) := f14
        refine g_1 (fun w => lv_iload X.1 X.2.1 d_MD_layer_206 (lv_at hl 0 rfl) w) ?_
        refine g_1 (fun w => lv_aload_n X.1 X.2.1 d_MD_layer_208 rfl (lv_at hl 1 rfl) w) ?_
        refine g_get X (ci := 4) rfl f0 1 (by decide) ⟨rfl, rfl⟩ tw_503 (Or.inl rfl) rfl d_MD_layer_209 ?_
        refine g_icmp_ge (tgt := 244) X (by first | exact ⟨by omega, by omega⟩ | (split <;> exact ⟨by omega, by omega⟩) | exact cmpZ_ok _ _ | exact mul_ok (by omega) (by omega) (by omega) (by omega)) (by first | exact ⟨by omega, by omega⟩ | (split <;> exact ⟨by omega, by omega⟩) | exact cmpZ_ok _ _ | exact mul_ok (by omega) (by omega) (by omega) (by omega)) d_MD_layer_212 (by decide) (fun c212 => ?_) (fun c212 => ?_)
        · refine g_1 (fun w => lv_aload_n X.1 X.2.1 d_MD_layer_244 rfl (lv_at hl 1 rfl) w) ?_
          refine g_1 (fun w => lv_dup X.1 X.2.1 d_MD_layer_245 rfl w) ?_
          refine g_get X (ci := 4) rfl f0 8 (by decide) ⟨rfl, rfl⟩ tw_510 (Or.inl rfl) rfl d_MD_layer_246 ?_
          refine g_1 (fun w => lv_iconst (v := iZ 1) X.1 X.2.1 d_MD_layer_249 rfl w) ?_
          refine g_iadd X d_MD_layer_250 ?_
          refine g_put X (ci := 4) rfl f0 (Nat.succ_ne_zero _) 8 (by decide) ⟨rfl, rfl⟩ tw_510 (Or.inl rfl) rfl rfl rfl (Nat.le_of_ble_eq_true rfl) d_MD_layer_251 ?_
          obtain ⟨h_1, eh_1⟩ : ∃ z, z = g_up hg a ((20, 0), .inr (4, [.int (iZ (0)), .int (iZ (mN M)), .int (iZ (mA M)), .ref p3, .ref p4, .int (iZ (mU M)), .ref p6, .ref p7, .int (iZ (mY M + 1)), .ref p9, .ref p10, .ref p11, .ref p12, .ref p13, .ref p14])) := ⟨_, rfl⟩
          refine g_h (h' := h_1) eh_1.symm ?_
          have f_2 : h_1 a = some ((20, 0), .inr (4, [.int (iZ (0)), .int (iZ (mN M)), .int (iZ (mA M)), .ref p3, .ref p4, .int (iZ (mU M)), .ref p6, .ref p7, .int (iZ (mY M + 1)), .ref p9, .ref p10, .ref p11, .ref p12, .ref p13, .ref p14])) := by rw [eh_1]; exact g_us
          have f_3 : h_1 p3 = some ((21, a), gI D 1024 (aP M)) := by rw [eh_1]; exact g_uk f3 f0 (show (21 : Nat) ≠ 20 by decide)
          have f_4 : h_1 p4 = some ((22, a), gI D 1024 (aB M)) := by rw [eh_1]; exact g_uk f4 f0 (show (22 : Nat) ≠ 20 by decide)
          have f_5 : h_1 p6 = some ((23, a), gI D 17408 (aY M)) := by rw [eh_1]; exact g_uk f6 f0 (show (23 : Nat) ≠ 20 by decide)
          have f_6 : h_1 p7 = some ((24, a), gL D 17408 (aG M)) := by rw [eh_1]; exact g_uk f7 f0 (show (24 : Nat) ≠ 20 by decide)
          have f_7 : h_1 p9 = some ((25, a), gI D 65536 (cc_)) := by rw [eh_1]; exact g_uk f9 f0 (show (25 : Nat) ≠ 20 by decide)
          have f_8 : h_1 p10 = some ((26, a), gI D 64 (va_up (aT M) yn (totB QQ.1 n))) := by rw [eh_1]; exact g_uk f10 f0 (show (26 : Nat) ≠ 20 by decide)
          have f_9 : h_1 p11 = some ((27, a), gL D 64 (va_up (aL M) yn (QQ.2.2.1))) := by rw [eh_1]; exact g_uk f11 f0 (show (27 : Nat) ≠ 20 by decide)
          have f_10 : h_1 p12 = some ((28, a), gI D 64 (va_up (aM M) yn (QQ.2.2.2))) := by rw [eh_1]; exact g_uk f12 f0 (show (28 : Nat) ≠ 20 by decide)
          have f_11 : h_1 p13 = some ((29, a), gI D 1024 (kk_)) := by rw [eh_1]; exact g_uk f13 f0 (show (29 : Nat) ≠ 20 by decide)
          have f_12 : h_1 p14 = some ((30, a), gI D 1024 (xx_)) := by rw [eh_1]; exact g_uk f14 f0 (show (30 : Nat) ≠ 20 by decide)
          have hk_13 := kp_up (hkg) eh_1 f0 (⟨Nat.le_of_ble_eq_true rfl, Nat.le_of_ble_eq_true rfl⟩)
          refine g_1 (fun w => lv_aload_n X.1 X.2.1 d_MD_layer_254 rfl (lv_at hl 1 rfl) w) ?_
          refine g_get X (ci := 4) rfl f_2 10 (by decide) ⟨rfl, rfl⟩ tw_512 (Or.inl rfl) rfl d_MD_layer_255 ?_
          refine g_1 (fun w => lv_aload_n X.1 X.2.1 d_MD_layer_258 rfl (lv_at hl 1 rfl) w) ?_
          refine g_get X (ci := 4) rfl f_2 8 (by decide) ⟨rfl, rfl⟩ tw_510 (Or.inl rfl) rfl d_MD_layer_259 ?_
          refine g_1 (fun w => lv_iconst (v := iZ 1) X.1 X.2.1 d_MD_layer_262 rfl w) ?_
          refine g_isub X d_MD_layer_263 ?_
          refine g_ild X f_8 (yn) (by omega) (by omega) (by omega) d_MD_layer_264 ?_
          exact g_iret X (⟨0, QQ.2.1, g_ei (by rw [va_up_self, htQ]), hk_13, Or.inr (Or.inr ⟨by omega, by omega, rfl, rfl, cc_, kk_, xx_, fun b hb => hcc b (by omega), hcd, ⟨p3, p4, p6, p7, p9, p10, p11, p12, p13, p14, f_2, f_3, f_4, f_5, f_6, f_7, f_8, f_9, f_10, f_11, f_12⟩⟩)⟩) (by decide) (by decide) d_MD_layer_265
        · exfalso
          omega
      | succ d ih =>
        intro i hg cc_ ls hi hmg hcc hcd hkg hl
        obtain ⟨p3, p4, p6, p7, p9, p10, p11, p12, p13, p14, f0, f3, f4, f6, f7, f9, f10, f11, f12, f13, f14⟩ := id hmg
        have f0 : hg a = some ((20, 0), .inr (4, [.int (iZ (0)), .int (iZ (mN M)), .int (iZ (mA M)), .ref p3, .ref p4, .int (iZ (mU M)), .ref p6, .ref p7, .int (iZ (mY M)), .ref p9, .ref p10, .ref p11, .ref p12, .ref p13, .ref p14])) := f0
        have f3 : hg p3 = some ((21, a), gI D 1024 (aP M)) := f3
        have f4 : hg p4 = some ((22, a), gI D 1024 (aB M)) := f4
        have f6 : hg p6 = some ((23, a), gI D 17408 (aY M)) := f6
        have f7 : hg p7 = some ((24, a), gL D 17408 (aG M)) := f7
        have f9 : hg p9 = some ((25, a), gI D 65536 (cc_)) := f9
        have f10 : hg p10 = some ((26, a), gI D 64 (va_up (aT M) yn (totB QQ.1 n))) := f10
        have f11 : hg p11 = some ((27, a), gL D 64 (va_up (aL M) yn (QQ.2.2.1))) := f11
        have f12 : hg p12 = some ((28, a), gI D 64 (va_up (aM M) yn (QQ.2.2.2))) := f12
        have f13 : hg p13 = some ((29, a), gI D 1024 (kk_)) := f13
        have f14 : hg p14 = some ((30, a), gI D 1024 (xx_)) := f14
        refine g_1 (fun w => lv_iload X.1 X.2.1 d_MD_layer_206 (lv_at hl 0 rfl) w) ?_
        refine g_1 (fun w => lv_aload_n X.1 X.2.1 d_MD_layer_208 rfl (lv_at hl 1 rfl) w) ?_
        refine g_get X (ci := 4) rfl f0 1 (by decide) ⟨rfl, rfl⟩ tw_503 (Or.inl rfl) rfl d_MD_layer_209 ?_
        refine g_icmp_ge (tgt := 244) X (by first | exact ⟨by omega, by omega⟩ | (split <;> exact ⟨by omega, by omega⟩) | exact cmpZ_ok _ _ | exact mul_ok (by omega) (by omega) (by omega) (by omega)) (by first | exact ⟨by omega, by omega⟩ | (split <;> exact ⟨by omega, by omega⟩) | exact cmpZ_ok _ _ | exact mul_ok (by omega) (by omega) (by omega) (by omega)) d_MD_layer_212 (by decide) (fun c212 => ?_) (fun c212 => ?_)
        · exfalso
          omega
        · refine g_1 (fun w => lv_aload_n X.1 X.2.1 d_MD_layer_215 rfl (lv_at hl 1 rfl) w) ?_
          refine g_get X (ci := 4) rfl f0 9 (by decide) ⟨rfl, rfl⟩ tw_511 (Or.inl rfl) rfl d_MD_layer_216 ?_
          refine g_1 (fun w => lv_sipush (v := iZ 1024) X.1 X.2.1 d_MD_layer_219 (by decide) w) ?_
          refine g_1 (fun w => lv_aload_n X.1 X.2.1 d_MD_layer_222 rfl (lv_at hl 1 rfl) w) ?_
          refine g_get X (ci := 4) rfl f0 8 (by decide) ⟨rfl, rfl⟩ tw_510 (Or.inl rfl) rfl d_MD_layer_223 ?_
          refine g_imul X d_MD_layer_226 ?_
          refine g_1 (fun w => lv_iload X.1 X.2.1 d_MD_layer_227 (lv_at hl 0 rfl) w) ?_
          refine g_iadd X d_MD_layer_229 ?_
          refine g_1 (fun w => lv_aload_n X.1 X.2.1 d_MD_layer_230 rfl (lv_at hl 1 rfl) w) ?_
          refine g_get X (ci := 4) rfl f0 13 (by decide) ⟨rfl, rfl⟩ tw_515 (Or.inl rfl) rfl d_MD_layer_231 ?_
          refine g_1 (fun w => lv_iload X.1 X.2.1 d_MD_layer_234 (lv_at hl 0 rfl) w) ?_
          refine g_ild X f13 (i) (rfl) (by omega) (by omega) d_MD_layer_236 ?_
          refine g_ti (congrArg iZ (show (kk_ i : Int) = bL (QQ.1 i) from (hct i (by omega)).1)) ?_
          refine g_ist X f9 (Nat.succ_ne_zero _) (1024 * yn + i) (by omega) (by omega) (by omega) d_MD_layer_237 ?_
          obtain ⟨h_1, eh_1⟩ : ∃ z, z = g_up hg p9 ((25, a), gI D 65536 (va_up (cc_) (1024 * yn + i) (bL (QQ.1 i)))) := ⟨_, rfl⟩
          refine g_h (h' := h_1) eh_1.symm ?_
          have f_2 : h_1 a = some ((20, 0), .inr (4, [.int (iZ (0)), .int (iZ (mN M)), .int (iZ (mA M)), .ref p3, .ref p4, .int (iZ (mU M)), .ref p6, .ref p7, .int (iZ (mY M)), .ref p9, .ref p10, .ref p11, .ref p12, .ref p13, .ref p14])) := by rw [eh_1]; exact g_uk f0 f9 (show (20 : Nat) ≠ 25 by decide)
          have f_3 : h_1 p3 = some ((21, a), gI D 1024 (aP M)) := by rw [eh_1]; exact g_uk f3 f9 (show (21 : Nat) ≠ 25 by decide)
          have f_4 : h_1 p4 = some ((22, a), gI D 1024 (aB M)) := by rw [eh_1]; exact g_uk f4 f9 (show (22 : Nat) ≠ 25 by decide)
          have f_5 : h_1 p6 = some ((23, a), gI D 17408 (aY M)) := by rw [eh_1]; exact g_uk f6 f9 (show (23 : Nat) ≠ 25 by decide)
          have f_6 : h_1 p7 = some ((24, a), gL D 17408 (aG M)) := by rw [eh_1]; exact g_uk f7 f9 (show (24 : Nat) ≠ 25 by decide)
          have f_7 : h_1 p9 = some ((25, a), gI D 65536 (va_up (cc_) (1024 * yn + i) (bL (QQ.1 i)))) := by rw [eh_1]; exact g_us
          have f_8 : h_1 p10 = some ((26, a), gI D 64 (va_up (aT M) yn (totB QQ.1 n))) := by rw [eh_1]; exact g_uk f10 f9 (show (26 : Nat) ≠ 25 by decide)
          have f_9 : h_1 p11 = some ((27, a), gL D 64 (va_up (aL M) yn (QQ.2.2.1))) := by rw [eh_1]; exact g_uk f11 f9 (show (27 : Nat) ≠ 25 by decide)
          have f_10 : h_1 p12 = some ((28, a), gI D 64 (va_up (aM M) yn (QQ.2.2.2))) := by rw [eh_1]; exact g_uk f12 f9 (show (28 : Nat) ≠ 25 by decide)
          have f_11 : h_1 p13 = some ((29, a), gI D 1024 (kk_)) := by rw [eh_1]; exact g_uk f13 f9 (show (29 : Nat) ≠ 25 by decide)
          have f_12 : h_1 p14 = some ((30, a), gI D 1024 (xx_)) := by rw [eh_1]; exact g_uk f14 f9 (show (30 : Nat) ≠ 25 by decide)
          have hk_13 := kp_up (hkg) eh_1 f9 (⟨Nat.le_of_ble_eq_true rfl, Nat.le_of_ble_eq_true rfl⟩)
          refine g_s (fun kk => lv_iinc (v := iZ (i + 1)) (lv' := [(4, .int (iZ (i + 1))), (0, .ref a)]) X.1 X.2.1 d_MD_layer_238 hl (k := 0) rfl (iZ_add _ _) (by decide) rfl kk) (fun ls hl => ?_)
          refine g_goto (tgt := 206) X d_MD_layer_241 (by decide) ?_
          exact ih (i + 1) h_1 (va_up cc_ (1024 * yn + i) (bL (QQ.1 i))) ls (by omega) ⟨p3, p4, p6, p7, p9, p10, p11, p12, p13, p14, f_2, f_3, f_4, f_5, f_6, f_7, f_8, f_9, f_10, f_11, f_12⟩ (fun b hb => by
            by_cases ez : b = i
            · rw [ez, va_up_self]
            · rw [va_up_ne _ _ (by omega)]; exact hcc b (by omega)) (fun j hj => by rw [va_up_ne _ _ (by omega)]; exact hcd j hj) hk_13 (lv_sub hl [0, 1] rfl)
    obtain ⟨p3, p4, p6, p7, p9, p10, p11, p12, p13, p14, f0, f3, f4, f6, f7, f9, f10, f11, f12, f13, f14⟩ := id hmt
    have f0 : hh a = some ((20, 0), .inr (4, [.int (iZ (0)), .int (iZ (mN M)), .int (iZ (mA M)), .ref p3, .ref p4, .int (iZ (mU M)), .ref p6, .ref p7, .int (iZ (mY M)), .ref p9, .ref p10, .ref p11, .ref p12, .ref p13, .ref p14])) := f0
    have f3 : hh p3 = some ((21, a), gI D 1024 (aP M)) := f3
    have f4 : hh p4 = some ((22, a), gI D 1024 (aB M)) := f4
    have f6 : hh p6 = some ((23, a), gI D 17408 (aY M)) := f6
    have f7 : hh p7 = some ((24, a), gL D 17408 (aG M)) := f7
    have f9 : hh p9 = some ((25, a), gI D 65536 (aC M)) := f9
    have f10 : hh p10 = some ((26, a), gI D 64 (aT M)) := f10
    have f11 : hh p11 = some ((27, a), gL D 64 (va_up (aL M) yn (QQ.2.2.1))) := f11
    have f12 : hh p12 = some ((28, a), gI D 64 (va_up (aM M) yn (QQ.2.2.2))) := f12
    have f13 : hh p13 = some ((29, a), gI D 1024 (kk_)) := f13
    have f14 : hh p14 = some ((30, a), gI D 1024 (xx_)) := f14
    refine g_1 (fun w => lv_aload_n X.1 X.2.1 d_MD_layer_190 rfl (lv_at hl 0 rfl) w) ?_
    refine g_get X (ci := 4) rfl f0 10 (by decide) ⟨rfl, rfl⟩ tw_512 (Or.inl rfl) rfl d_MD_layer_191 ?_
    refine g_1 (fun w => lv_aload_n X.1 X.2.1 d_MD_layer_194 rfl (lv_at hl 0 rfl) w) ?_
    refine g_get X (ci := 4) rfl f0 8 (by decide) ⟨rfl, rfl⟩ tw_510 (Or.inl rfl) rfl d_MD_layer_195 ?_
    refine g_1 (fun w => lv_aload_n X.1 X.2.1 d_MD_layer_198 rfl (lv_at hl 0 rfl) w) ?_
    refine g_callV (na := 0) X (c_MD_sumOf B0 hmt (mV_kx hvQ) hwQ hct) rfl f0 rfl ⟨⟨tw_621, tw_5⟩, ⟨by decide, by decide, by decide +kernel⟩, by decide, by decide⟩ tw_618 tw_620 ts_MD_sumOf rfl hl.1 (Nat.le_of_ble_eq_true rfl) ⟨by decide, by decide⟩ d_MD_layer_199 (fun v h' hp => ?_)
    obtain ⟨rfl, rfl⟩ := hp
    refine g_widen (k' := 0) (n' := 0) (by decide) (by decide) ?_
    show G D s0 p l e _ s m _ below meth c hh _ _ _ (F0 m 202 ls [.int (iZ (totB QQ.1 n)), .int (iZ (mY M)), .ref p10])
    refine g_ist X f10 (Nat.succ_ne_zero _) (yn) (l1) (by omega) (by omega) d_MD_layer_202 ?_
    obtain ⟨h_1, eh_1⟩ : ∃ z, z = g_up hh p10 ((26, a), gI D 64 (va_up (aT M) (yn) (totB QQ.1 n))) := ⟨_, rfl⟩
    refine g_h (h' := h_1) eh_1.symm ?_
    have f_2 : h_1 a = some ((20, 0), .inr (4, [.int (iZ (0)), .int (iZ (mN M)), .int (iZ (mA M)), .ref p3, .ref p4, .int (iZ (mU M)), .ref p6, .ref p7, .int (iZ (mY M)), .ref p9, .ref p10, .ref p11, .ref p12, .ref p13, .ref p14])) := by rw [eh_1]; exact g_uk f0 f10 (show (20 : Nat) ≠ 26 by decide)
    have f_3 : h_1 p3 = some ((21, a), gI D 1024 (aP M)) := by rw [eh_1]; exact g_uk f3 f10 (show (21 : Nat) ≠ 26 by decide)
    have f_4 : h_1 p4 = some ((22, a), gI D 1024 (aB M)) := by rw [eh_1]; exact g_uk f4 f10 (show (22 : Nat) ≠ 26 by decide)
    have f_5 : h_1 p6 = some ((23, a), gI D 17408 (aY M)) := by rw [eh_1]; exact g_uk f6 f10 (show (23 : Nat) ≠ 26 by decide)
    have f_6 : h_1 p7 = some ((24, a), gL D 17408 (aG M)) := by rw [eh_1]; exact g_uk f7 f10 (show (24 : Nat) ≠ 26 by decide)
    have f_7 : h_1 p9 = some ((25, a), gI D 65536 (aC M)) := by rw [eh_1]; exact g_uk f9 f10 (show (25 : Nat) ≠ 26 by decide)
    have f_8 : h_1 p10 = some ((26, a), gI D 64 (va_up (aT M) (yn) (totB QQ.1 n))) := by rw [eh_1]; exact g_us
    have f_9 : h_1 p11 = some ((27, a), gL D 64 (va_up (aL M) yn (QQ.2.2.1))) := by rw [eh_1]; exact g_uk f11 f10 (show (27 : Nat) ≠ 26 by decide)
    have f_10 : h_1 p12 = some ((28, a), gI D 64 (va_up (aM M) yn (QQ.2.2.2))) := by rw [eh_1]; exact g_uk f12 f10 (show (28 : Nat) ≠ 26 by decide)
    have f_11 : h_1 p13 = some ((29, a), gI D 1024 (kk_)) := by rw [eh_1]; exact g_uk f13 f10 (show (29 : Nat) ≠ 26 by decide)
    have f_12 : h_1 p14 = some ((30, a), gI D 1024 (xx_)) := by rw [eh_1]; exact g_uk f14 f10 (show (30 : Nat) ≠ 26 by decide)
    have hk_13 := kp_up (hkk) eh_1 f10 (⟨Nat.le_of_ble_eq_true rfl, Nat.le_of_ble_eq_true rfl⟩)
    refine g_1 (fun w => lv_iconst (v := iZ 0) X.1 X.2.1 d_MD_layer_203 rfl w) ?_
    refine g_s (fun kk => lv_istore (lv' := [(4, .int (iZ (0))), (0, .ref a)]) X.1 X.2.1 d_MD_layer_204 hl (by decide) rfl kk) (fun ls hl => ?_)
    exact loop3 n 0 h_1 (aC M) ls (by omega) ⟨p3, p4, p6, p7, p9, p10, p11, p12, p13, p14, f_2, f_3, f_4, f_5, f_6, f_7, f_8, f_9, f_10, f_11, f_12⟩ (fun b hb => absurd hb (Nat.not_lt_zero _)) (fun j hj => rfl) hk_13 (lv_sub hl [0, 1] rfl)
  have loop2 : ∀ (d : Nat) (hh : gH) (q : Tkg) (kk_ xx_ : Nat → Int) (ls : Array Slot), rem q.1 n ≤ d → yn < 64 → -1 ≤ bud → (∀ i, i < n → wfC (q.1 i)) → (∀ i, i < n → bB (bs i) = bB (q.1 i) ∧ bG (bs i) = bG (q.1 i) ∧ bP (bs i) = bP (q.1 i)) → q.2.1 = totB q.1 n → isMD D hh a (mKX (mLM (0, M.2) (va_up (aL M) yn (q.2.2.1)) (va_up (aM M) yn (q.2.2.2))) kk_ xx_) → cV (mKX (mLM (0, M.2) (va_up (aL M) yn (q.2.2.1)) (va_up (aM M) yn (q.2.2.2))) kk_ xx_) n q.1 → kp P_MD h hh → tss n bud d q = QQ → lv_has ls 5 [(3, .int (iZ ((stp q.1 n : Int) - 1))), (1, .int (iZ (bud))), (0, .ref a)] → G D s0 p l e ({ frames := 4, cells := 0, slots := 0, locals := 96 } : Room) s m ([.ref a, .int (iZ (bud))] : List Value).toArray below meth c hh 0 0 (MQ below (gQ D s0 (fun v h' => ∃ t r : Int, some (.int (iZ r)) = v ∧ kp P_MD h h' ∧ ((bud < -1 ∧ t = 1 ∧ isMD D h' a (1, M.2)) ∨ (-1 ≤ bud ∧ ¬ yn < 64 ∧ t = 2 ∧ isMD D h' a (2, M.2)) ∨ (-1 ≤ bud ∧ yn < 64 ∧ t = 0 ∧ r = QQ.2.1 ∧ ∃ C' k x : Nat → Int, (∀ b, b < n → C' (1024 * yn + b) = bL (QQ.1 b)) ∧ (∀ j, j < 1024 * yn → C' j = aC M j) ∧ isMD D h' a (0, mN M, mA M, mU M, mY M + 1, aP M, aB M, aY M, aG M, C', va_up (aT M) yn (totB QQ.1 n), va_up (aL M) yn QQ.2.2.1, va_up (aM M) yn QQ.2.2.2, k, x))))) ([.ref a, .int (iZ (bud))] : List Value).toArray s 0 0 (fun q => s0.heap.size ≤ q)) (F0 m 156 ls []) := by
    intro d
    induction d with
    | zero =>
      intro hh q kk_ xx_ ls hrm hy64 hbm hwq hbq htq hm2 hc2 hkk hQ hl
      obtain ⟨p3, p4, p6, p7, p9, p10, p11, p12, p13, p14, f0, f3, f4, f6, f7, f9, f10, f11, f12, f13, f14⟩ := id hm2
      have f0 : hh a = some ((20, 0), .inr (4, [.int (iZ (0)), .int (iZ (mN M)), .int (iZ (mA M)), .ref p3, .ref p4, .int (iZ (mU M)), .ref p6, .ref p7, .int (iZ (mY M)), .ref p9, .ref p10, .ref p11, .ref p12, .ref p13, .ref p14])) := f0
      have f3 : hh p3 = some ((21, a), gI D 1024 (aP M)) := f3
      have f4 : hh p4 = some ((22, a), gI D 1024 (aB M)) := f4
      have f6 : hh p6 = some ((23, a), gI D 17408 (aY M)) := f6
      have f7 : hh p7 = some ((24, a), gL D 17408 (aG M)) := f7
      have f9 : hh p9 = some ((25, a), gI D 65536 (aC M)) := f9
      have f10 : hh p10 = some ((26, a), gI D 64 (aT M)) := f10
      have f11 : hh p11 = some ((27, a), gL D 64 (va_up (aL M) yn (q.2.2.1))) := f11
      have f12 : hh p12 = some ((28, a), gI D 64 (va_up (aM M) yn (q.2.2.2))) := f12
      have f13 : hh p13 = some ((29, a), gI D 1024 (kk_)) := f13
      have f14 : hh p14 = some ((30, a), gI D 1024 (xx_)) := f14
      have hsl := stp_le q.1 n
      have hvq : mV (mKX (mLM (0, M.2) (va_up (aL M) yn (q.2.2.1)) (va_up (aM M) yn (q.2.2.2))) kk_ xx_) n q.1 := mV_kx (mV_congr hv hbq)
      have hs0 := rem_0 (bs := q.1) (n := n) (by omega)
      have hQe : q = QQ := hQ
      refine g_1 (fun w => lv_iload_n X.1 X.2.1 d_MD_layer_156 rfl (lv_at hl 0 rfl) w) ?_
      refine g_if_lt (tgt := 190) X (by first | exact ⟨by omega, by omega⟩ | (split <;> exact ⟨by omega, by omega⟩) | exact cmpZ_ok _ _ | exact mul_ok (by omega) (by omega) (by omega) (by omega)) d_MD_layer_157 (by decide) (fun c157 => ?_) (fun c157 => ?_)
      · subst hQe
        exact tail hh kk_ xx_ ls hy64 hbm hm2 hc2 hkk (lv_sub hl [2] rfl)
      · exfalso
        omega
    | succ d ih =>
      intro hh q kk_ xx_ ls hrm hy64 hbm hwq hbq htq hm2 hc2 hkk hQ hl
      obtain ⟨p3, p4, p6, p7, p9, p10, p11, p12, p13, p14, f0, f3, f4, f6, f7, f9, f10, f11, f12, f13, f14⟩ := id hm2
      have f0 : hh a = some ((20, 0), .inr (4, [.int (iZ (0)), .int (iZ (mN M)), .int (iZ (mA M)), .ref p3, .ref p4, .int (iZ (mU M)), .ref p6, .ref p7, .int (iZ (mY M)), .ref p9, .ref p10, .ref p11, .ref p12, .ref p13, .ref p14])) := f0
      have f3 : hh p3 = some ((21, a), gI D 1024 (aP M)) := f3
      have f4 : hh p4 = some ((22, a), gI D 1024 (aB M)) := f4
      have f6 : hh p6 = some ((23, a), gI D 17408 (aY M)) := f6
      have f7 : hh p7 = some ((24, a), gL D 17408 (aG M)) := f7
      have f9 : hh p9 = some ((25, a), gI D 65536 (aC M)) := f9
      have f10 : hh p10 = some ((26, a), gI D 64 (aT M)) := f10
      have f11 : hh p11 = some ((27, a), gL D 64 (va_up (aL M) yn (q.2.2.1))) := f11
      have f12 : hh p12 = some ((28, a), gI D 64 (va_up (aM M) yn (q.2.2.2))) := f12
      have f13 : hh p13 = some ((29, a), gI D 1024 (kk_)) := f13
      have f14 : hh p14 = some ((30, a), gI D 1024 (xx_)) := f14
      have hsl := stp_le q.1 n
      have hvq : mV (mKX (mLM (0, M.2) (va_up (aL M) yn (q.2.2.1)) (va_up (aM M) yn (q.2.2.2))) kk_ xx_) n q.1 := mV_kx (mV_congr hv hbq)
      refine g_1 (fun w => lv_iload_n X.1 X.2.1 d_MD_layer_156 rfl (lv_at hl 0 rfl) w) ?_
      refine g_if_lt (tgt := 190) X (by first | exact ⟨by omega, by omega⟩ | (split <;> exact ⟨by omega, by omega⟩) | exact cmpZ_ok _ _ | exact mul_ok (by omega) (by omega) (by omega) (by omega)) d_MD_layer_157 (by decide) (fun c157 => ?_) (fun c157 => ?_)
      · have hQe := (tss_0 (k := d) (bud := bud) (show stp q.1 n = 0 by omega)).symm.trans hQ
        subst hQe
        exact tail hh kk_ xx_ ls hy64 hbm hm2 hc2 hkk (lv_sub hl [2] rfl)
      · obtain ⟨si, hsi⟩ : ∃ si, stp q.1 n = si + 1 := ⟨stp q.1 n - 1, by omega⟩
        have hl : lv_has ls 5 [(3, .int (iZ (si))), (1, .int (iZ (bud))), (0, .ref a)] := by rw [show ((si : Nat) : Int) = (stp q.1 n : Int) - 1 by omega]; exact hl
        have hsn : si < n := by omega
        have tsi : hN (q.1 si) := by have z := stp_has q.1 n (by omega); rw [hsi] at z; exact z
        have hcb := cst_bd (sg := nG (q.1 si)) (sb := nB (q.1 si)) (fun i hi => (hwq i hi).1)
        have htt := totB_bd (fun i hi => (hwq i hi).1)
        refine g_1 (fun w => lv_aload_n X.1 X.2.1 d_MD_layer_160 rfl (lv_at hl 2 rfl) w) ?_
        refine g_callV (na := 0) X (c_MD_sumOf B0 hm2 hvq hwq hc2) rfl f0 rfl ⟨⟨tw_621, tw_5⟩, ⟨by decide, by decide, by decide +kernel⟩, by decide, by decide⟩ tw_618 tw_620 ts_MD_sumOf rfl hl.1 (Nat.le_of_ble_eq_true rfl) ⟨by decide, by decide⟩ d_MD_layer_161 (fun v h' hp => ?_)
        obtain ⟨rfl, rfl⟩ := hp
        refine g_widen (k' := 0) (n' := 0) (by decide) (by decide) ?_
        show G D s0 p l e _ s m _ below meth c hh _ _ _ (F0 m 164 ls [.int (iZ (totB q.1 n))])
        refine g_i2l X (by first | exact ⟨by omega, by omega⟩ | (split <;> exact ⟨by omega, by omega⟩) | exact cmpZ_ok _ _ | exact mul_ok (by omega) (by omega) (by omega) (by omega)) d_MD_layer_164 ?_
        refine g_1 (fun w => lv_aload_n X.1 X.2.1 d_MD_layer_165 rfl (lv_at hl 2 rfl) w) ?_
        refine g_1 (fun w => lv_iload_n X.1 X.2.1 d_MD_layer_166 rfl (lv_at hl 0 rfl) w) ?_
        refine g_callV (na := 1) X (c_MD_costOf B0 hm2 hvq hwq hc2 si hsn tsi) rfl f0 rfl ⟨⟨tw_625, tw_5⟩, ⟨by decide, by decide, by decide +kernel⟩, by decide, by decide⟩ tw_622 tw_624 ts_MD_costOf rfl hl.1 (Nat.le_of_ble_eq_true rfl) ⟨by decide, by decide⟩ d_MD_layer_167 (fun v h' hp => ?_)
        obtain ⟨rfl, rfl⟩ := hp
        refine g_widen (k' := 0) (n' := 0) (by decide) (by decide) ?_
        show G D s0 p l e _ s m _ below meth c hh _ _ _ (F0 m 170 ls [.long (lZ (cst q.1 (nG (q.1 si)) (nB (q.1 si)) n)), .long (lZ (totB q.1 n))])
        refine g_ladd X d_MD_layer_170 ?_
        refine g_1 (fun w => lv_iload_n X.1 X.2.1 d_MD_layer_171 rfl (lv_at hl 1 rfl) w) ?_
        refine g_i2l X (by first | exact ⟨by omega, by omega⟩ | (split <;> exact ⟨by omega, by omega⟩) | exact cmpZ_ok _ _ | exact mul_ok (by omega) (by omega) (by omega) (by omega)) d_MD_layer_172 ?_
        refine g_lcmp X (by first | exact ⟨by omega, by omega⟩ | (split <;> exact ⟨by omega, by omega⟩) | exact cmpZ_ok _ _ | exact mul_ok (by omega) (by omega) (by omega) (by omega)) (by first | exact ⟨by omega, by omega⟩ | (split <;> exact ⟨by omega, by omega⟩) | exact cmpZ_ok _ _ | exact mul_ok (by omega) (by omega) (by omega) (by omega)) d_MD_layer_173 ?_
        refine g_if_gt (tgt := 190) X (cmpZ_ok _ _) d_MD_layer_174 (by decide) (fun c174 => ?_) (fun c174 => ?_)
        · have hQe := (tss_b (k := d) (bud := bud) hsi (by have z := cmpZ_gt.mp c174; omega)).symm.trans hQ
          subst hQe
          exact tail hh kk_ xx_ ls hy64 hbm hm2 hc2 hkk (lv_sub hl [2] rfl)
        · refine g_1 (fun w => lv_aload_n X.1 X.2.1 d_MD_layer_177 rfl (lv_at hl 2 rfl) w) ?_
          refine g_1 (fun w => lv_iload_n X.1 X.2.1 d_MD_layer_178 rfl (lv_at hl 0 rfl) w) ?_
          refine g_callV (na := 1) X (c_MD_take B0 hm2 hvq hwq hc2 si hsn tsi (mY_kx l1) hy64) rfl f0 rfl ⟨⟨tw_629, tw_5⟩, ⟨by decide, by decide, by decide +kernel⟩, by decide, by decide⟩ tw_626 tw_628 ts_MD_take rfl hl.1 (Nat.le_of_ble_eq_true rfl) ⟨by decide, by decide⟩ d_MD_layer_179 (fun v h_1 hp => ?_)
          obtain ⟨rfl, k2, x2, hm3, hc3, hkg⟩ := hp
          have hk3 := kp_tr hkk hkg
          have hwq3 : ∀ i, i < n → wfC (tkS (nG (q.1 si)) (nB (q.1 si)) (q.1 i)) := fun i hi => wfC_tkS (hwq i hi)
          have hbq3 : ∀ i, i < n → bB (bs i) = bB (tkS (nG (q.1 si)) (nB (q.1 si)) (q.1 i)) ∧ bG (bs i) = bG (tkS (nG (q.1 si)) (nB (q.1 si)) (q.1 i)) ∧ bP (bs i) = bP (tkS (nG (q.1 si)) (nB (q.1 si)) (q.1 i)) := fun i hi => by
            have y := tkS_BGP (nG (q.1 si)) (nB (q.1 si)) (q.1 i)
            have z := hbq i hi
            exact ⟨z.1.trans y.1.symm, z.2.1.trans y.2.1.symm, z.2.2.trans y.2.2.symm⟩
          have hm3 := isMD_kx rfl hm3
          have hc3 := cV_kx (B := (mLM (0, M.2) (va_up (aL M) yn (nG (q.1 si))) (va_up (aM M) yn (nB (q.1 si))))) hc3
          have hvq3 : mV (mKX (mLM (0, M.2) (va_up (aL M) yn (nG (q.1 si))) (va_up (aM M) yn (nB (q.1 si)))) k2 x2) n (fun j => tkS (nG (q.1 si)) (nB (q.1 si)) (q.1 j)) := mV_kx (mV_congr hv hbq3)
          obtain ⟨p3, p4, p6, p7, p9, p10, p11, p12, p13, p14, f0, f3, f4, f6, f7, f9, f10, f11, f12, f13, f14⟩ := id hm3
          have f0 : h_1 a = some ((20, 0), .inr (4, [.int (iZ (0)), .int (iZ (mN M)), .int (iZ (mA M)), .ref p3, .ref p4, .int (iZ (mU M)), .ref p6, .ref p7, .int (iZ (mY M)), .ref p9, .ref p10, .ref p11, .ref p12, .ref p13, .ref p14])) := f0
          have f3 : h_1 p3 = some ((21, a), gI D 1024 (aP M)) := f3
          have f4 : h_1 p4 = some ((22, a), gI D 1024 (aB M)) := f4
          have f6 : h_1 p6 = some ((23, a), gI D 17408 (aY M)) := f6
          have f7 : h_1 p7 = some ((24, a), gL D 17408 (aG M)) := f7
          have f9 : h_1 p9 = some ((25, a), gI D 65536 (aC M)) := f9
          have f10 : h_1 p10 = some ((26, a), gI D 64 (aT M)) := f10
          have f11 : h_1 p11 = some ((27, a), gL D 64 (va_up (aL M) yn (nG (q.1 si)))) := f11
          have f12 : h_1 p12 = some ((28, a), gI D 64 (va_up (aM M) yn (nB (q.1 si)))) := f12
          have f13 : h_1 p13 = some ((29, a), gI D 1024 (k2)) := f13
          have f14 : h_1 p14 = some ((30, a), gI D 1024 (x2)) := f14
          refine g_widen (k' := 0) (n' := 0) (by decide) (by decide) ?_
          show G D s0 p l e _ s m _ below meth c h_1 _ _ _ (F0 m 182 ls [])
          refine g_1 (fun w => lv_aload_n X.1 X.2.1 d_MD_layer_182 rfl (lv_at hl 2 rfl) w) ?_
          refine g_callV (na := 0) X (c_MD_steepest B0 hm3 hvq3 hwq3 hc3) rfl f0 rfl ⟨⟨tw_613, tw_5⟩, ⟨by decide, by decide, by decide +kernel⟩, by decide, by decide⟩ tw_610 tw_612 ts_MD_steepest rfl hl.1 (Nat.le_of_ble_eq_true rfl) ⟨by decide, by decide⟩ d_MD_layer_183 (fun v h' hp => ?_)
          obtain ⟨rfl, rfl⟩ := hp
          refine g_widen (k' := 0) (n' := 0) (by decide) (by decide) ?_
          show G D s0 p l e _ s m _ below meth c h_1 _ _ _ (F0 m 186 ls [.int (iZ ((stp (fun j => tkS (nG (q.1 si)) (nB (q.1 si)) (q.1 j)) n : Int) - 1))])
          refine g_s (fun kk => lv_istore_n (lv' := [(3, .int (iZ ((stp (fun j => tkS (nG (q.1 si)) (nB (q.1 si)) (q.1 j)) n : Int) - 1))), (1, .int (iZ (bud))), (0, .ref a)]) X.1 X.2.1 d_MD_layer_186 rfl hl (by decide) rfl kk) (fun ls hl => ?_)
          refine g_goto (tgt := 156) X d_MD_layer_187 (by decide) ?_
          have hcz : ¬ bud < q.2.1 + cst q.1 (nG (q.1 si)) (nB (q.1 si)) n := by
            have z : ¬ 0 < cmpZ (totB q.1 n + cst q.1 (nG (q.1 si)) (nB (q.1 si)) n) bud := by omega
            rw [cmpZ_gt] at z
            omega
          exact ih h_1 (fun j => tkS (nG (q.1 si)) (nB (q.1 si)) (q.1 j), q.2.1 + cst q.1 (nG (q.1 si)) (nB (q.1 si)) n, nG (q.1 si), nB (q.1 si)) k2 x2 ls (by have z := rem_dec (eqS_self tsi) hsn; show rem (fun j => tkS (nG (q.1 si)) (nB (q.1 si)) (q.1 j)) n ≤ d; omega) hy64 hbm hwq3 hbq3 (by show q.2.1 + _ = totB (fun j => tkS (nG (q.1 si)) (nB (q.1 si)) (q.1 j)) n; rw [totB_tkS (fun i hi => (hwq i hi).1), htq]) hm3 hc3 hk3 ((tss_s hsi hcz).symm.trans hQ) (lv_sub hl [0, 1, 2] rfl)
  have loop1 : ∀ (d i : Nat) (hh : gH) (kk_ xx_ : Nat → Int) (ls : Array Slot), i + d = n → yn < 64 → -1 ≤ bud → isMD D hh a (mKX (mLM (0, M.2) (va_up (aL M) yn (-1)) (va_up (aM M) yn (-1))) kk_ xx_) → cV (mKX (mLM (0, M.2) (va_up (aL M) yn (-1)) (va_up (aM M) yn (-1))) kk_ xx_) i bs → kp P_MD h hh → lv_has ls 5 [(3, .int (iZ (i))), (2, .int (iZ (0))), (1, .int (iZ (bud))), (0, .ref a)] → G D s0 p l e ({ frames := 4, cells := 0, slots := 0, locals := 96 } : Room) s m ([.ref a, .int (iZ (bud))] : List Value).toArray below meth c hh 0 0 (MQ below (gQ D s0 (fun v h' => ∃ t r : Int, some (.int (iZ r)) = v ∧ kp P_MD h h' ∧ ((bud < -1 ∧ t = 1 ∧ isMD D h' a (1, M.2)) ∨ (-1 ≤ bud ∧ ¬ yn < 64 ∧ t = 2 ∧ isMD D h' a (2, M.2)) ∨ (-1 ≤ bud ∧ yn < 64 ∧ t = 0 ∧ r = QQ.2.1 ∧ ∃ C' k x : Nat → Int, (∀ b, b < n → C' (1024 * yn + b) = bL (QQ.1 b)) ∧ (∀ j, j < 1024 * yn → C' j = aC M j) ∧ isMD D h' a (0, mN M, mA M, mU M, mY M + 1, aP M, aB M, aY M, aG M, C', va_up (aT M) yn (totB QQ.1 n), va_up (aL M) yn QQ.2.2.1, va_up (aM M) yn QQ.2.2.2, k, x))))) ([.ref a, .int (iZ (bud))] : List Value).toArray s 0 0 (fun q => s0.heap.size ≤ q)) (F0 m 63 ls []) := by
    intro d
    induction d with
    | zero =>
      intro i hh kk_ xx_ ls hi hy64 hbm hm2 hc2 hkk hl
      obtain ⟨p3, p4, p6, p7, p9, p10, p11, p12, p13, p14, f0, f3, f4, f6, f7, f9, f10, f11, f12, f13, f14⟩ := id hm2
      have f0 : hh a = some ((20, 0), .inr (4, [.int (iZ (0)), .int (iZ (mN M)), .int (iZ (mA M)), .ref p3, .ref p4, .int (iZ (mU M)), .ref p6, .ref p7, .int (iZ (mY M)), .ref p9, .ref p10, .ref p11, .ref p12, .ref p13, .ref p14])) := f0
      have f3 : hh p3 = some ((21, a), gI D 1024 (aP M)) := f3
      have f4 : hh p4 = some ((22, a), gI D 1024 (aB M)) := f4
      have f6 : hh p6 = some ((23, a), gI D 17408 (aY M)) := f6
      have f7 : hh p7 = some ((24, a), gL D 17408 (aG M)) := f7
      have f9 : hh p9 = some ((25, a), gI D 65536 (aC M)) := f9
      have f10 : hh p10 = some ((26, a), gI D 64 (aT M)) := f10
      have f11 : hh p11 = some ((27, a), gL D 64 (va_up (aL M) yn (-1))) := f11
      have f12 : hh p12 = some ((28, a), gI D 64 (va_up (aM M) yn (-1))) := f12
      have f13 : hh p13 = some ((29, a), gI D 1024 (kk_)) := f13
      have f14 : hh p14 = some ((30, a), gI D 1024 (xx_)) := f14
      have hei : i = n := by omega
      subst hei
      have hc0 := hc2
      have hv0 := hv
      have hw0 := hw
      have hsl := stp_le bs i
      refine g_1 (fun w => lv_iload_n X.1 X.2.1 d_MD_layer_63 rfl (lv_at hl 0 rfl) w) ?_
      refine g_1 (fun w => lv_aload_n X.1 X.2.1 d_MD_layer_64 rfl (lv_at hl 3 rfl) w) ?_
      refine g_get X (ci := 4) rfl f0 1 (by decide) ⟨rfl, rfl⟩ tw_503 (Or.inl rfl) rfl d_MD_layer_65 ?_
      refine g_icmp_ge (tgt := 151) X (by first | exact ⟨by omega, by omega⟩ | (split <;> exact ⟨by omega, by omega⟩) | exact cmpZ_ok _ _ | exact mul_ok (by omega) (by omega) (by omega) (by omega)) (by first | exact ⟨by omega, by omega⟩ | (split <;> exact ⟨by omega, by omega⟩) | exact cmpZ_ok _ _ | exact mul_ok (by omega) (by omega) (by omega) (by omega)) d_MD_layer_68 (by decide) (fun c68 => ?_) (fun c68 => ?_)
      · refine g_1 (fun w => lv_aload_n X.1 X.2.1 d_MD_layer_151 rfl (lv_at hl 3 rfl) w) ?_
        refine g_callV (na := 0) X (c_MD_steepest B0 hm2 (mV_kx hv0) hw0 hc0) rfl f0 rfl ⟨⟨tw_613, tw_5⟩, ⟨by decide, by decide, by decide +kernel⟩, by decide, by decide⟩ tw_610 tw_612 ts_MD_steepest rfl hl.1 (Nat.le_of_ble_eq_true rfl) ⟨by decide, by decide⟩ d_MD_layer_152 (fun v h' hp => ?_)
        obtain ⟨rfl, rfl⟩ := hp
        refine g_widen (k' := 0) (n' := 0) (by decide) (by decide) ?_
        show G D s0 p l e _ s m _ below meth c hh _ _ _ (F0 m 155 ls [.int (iZ ((stp bs i : Int) - 1))])
        refine g_s (fun kk => lv_istore_n (lv' := [(3, .int (iZ ((stp bs i : Int) - 1))), (2, .int (iZ (0))), (1, .int (iZ (bud))), (0, .ref a)]) X.1 X.2.1 d_MD_layer_155 rfl hl (by decide) rfl kk) (fun ls hl => ?_)
        exact loop2 N hh (bs, tb, -1, -1) kk_ xx_ ls hrem hy64 hbm hw (fun _ _ => ⟨rfl, rfl, rfl⟩) htb hm2 hc0 hkk (hQQ.trans (if_neg hbd)).symm (lv_sub hl [0, 2, 3] rfl)
      · exfalso
        omega
    | succ d ih =>
      intro i hh kk_ xx_ ls hi hy64 hbm hm2 hc2 hkk hl
      obtain ⟨p3, p4, p6, p7, p9, p10, p11, p12, p13, p14, f0, f3, f4, f6, f7, f9, f10, f11, f12, f13, f14⟩ := id hm2
      have f0 : hh a = some ((20, 0), .inr (4, [.int (iZ (0)), .int (iZ (mN M)), .int (iZ (mA M)), .ref p3, .ref p4, .int (iZ (mU M)), .ref p6, .ref p7, .int (iZ (mY M)), .ref p9, .ref p10, .ref p11, .ref p12, .ref p13, .ref p14])) := f0
      have f3 : hh p3 = some ((21, a), gI D 1024 (aP M)) := f3
      have f4 : hh p4 = some ((22, a), gI D 1024 (aB M)) := f4
      have f6 : hh p6 = some ((23, a), gI D 17408 (aY M)) := f6
      have f7 : hh p7 = some ((24, a), gL D 17408 (aG M)) := f7
      have f9 : hh p9 = some ((25, a), gI D 65536 (aC M)) := f9
      have f10 : hh p10 = some ((26, a), gI D 64 (aT M)) := f10
      have f11 : hh p11 = some ((27, a), gL D 64 (va_up (aL M) yn (-1))) := f11
      have f12 : hh p12 = some ((28, a), gI D 64 (va_up (aM M) yn (-1))) := f12
      have f13 : hh p13 = some ((29, a), gI D 1024 (kk_)) := f13
      have f14 : hh p14 = some ((30, a), gI D 1024 (xx_)) := f14
      have hw1 := hw i (by omega)
      have k4 := hw1.1.1.2.2.2.1
      refine g_1 (fun w => lv_iload_n X.1 X.2.1 d_MD_layer_63 rfl (lv_at hl 0 rfl) w) ?_
      refine g_1 (fun w => lv_aload_n X.1 X.2.1 d_MD_layer_64 rfl (lv_at hl 3 rfl) w) ?_
      refine g_get X (ci := 4) rfl f0 1 (by decide) ⟨rfl, rfl⟩ tw_503 (Or.inl rfl) rfl d_MD_layer_65 ?_
      refine g_icmp_ge (tgt := 151) X (by first | exact ⟨by omega, by omega⟩ | (split <;> exact ⟨by omega, by omega⟩) | exact cmpZ_ok _ _ | exact mul_ok (by omega) (by omega) (by omega) (by omega)) (by first | exact ⟨by omega, by omega⟩ | (split <;> exact ⟨by omega, by omega⟩) | exact cmpZ_ok _ _ | exact mul_ok (by omega) (by omega) (by omega) (by omega)) d_MD_layer_68 (by decide) (fun c68 => ?_) (fun c68 => ?_)
      · exfalso
        omega
      · refine g_1 (fun w => lv_aload_n X.1 X.2.1 d_MD_layer_71 rfl (lv_at hl 3 rfl) w) ?_
        refine g_get X (ci := 4) rfl f0 13 (by decide) ⟨rfl, rfl⟩ tw_515 (Or.inl rfl) rfl d_MD_layer_72 ?_
        refine g_1 (fun w => lv_iload_n X.1 X.2.1 d_MD_layer_75 rfl (lv_at hl 0 rfl) w) ?_
        refine g_1 (fun w => lv_iload_n X.1 X.2.1 d_MD_layer_76 rfl (lv_at hl 2 rfl) w) ?_
        refine g_1 (fun w => lv_iconst (v := iZ (-1)) X.1 X.2.1 d_MD_layer_77 rfl w) ?_
        refine g_icmp_ne (tgt := 90) X (by first | exact ⟨by omega, by omega⟩ | (split <;> exact ⟨by omega, by omega⟩) | exact cmpZ_ok _ _ | exact mul_ok (by omega) (by omega) (by omega) (by omega)) (by first | exact ⟨by omega, by omega⟩ | (split <;> exact ⟨by omega, by omega⟩) | exact cmpZ_ok _ _ | exact mul_ok (by omega) (by omega) (by omega) (by omega)) d_MD_layer_78 (by decide) (fun c78 => ?_) (fun c78 => ?_)
        · refine g_1 (fun w => lv_aload_n X.1 X.2.1 d_MD_layer_90 rfl (lv_at hl 3 rfl) w) ?_
          refine g_get X (ci := 4) rfl f0 8 (by decide) ⟨rfl, rfl⟩ tw_510 (Or.inl rfl) rfl d_MD_layer_91 ?_
          refine g_if_ne (tgt := 101) X (by first | exact ⟨by omega, by omega⟩ | (split <;> exact ⟨by omega, by omega⟩) | exact cmpZ_ok _ _ | exact mul_ok (by omega) (by omega) (by omega) (by omega)) d_MD_layer_94 (by decide) (fun c94 => ?_) (fun c94 => ?_)
          · refine g_1 (fun w => lv_aload_n X.1 X.2.1 d_MD_layer_101 rfl (lv_at hl 3 rfl) w) ?_
            refine g_get X (ci := 4) rfl f0 9 (by decide) ⟨rfl, rfl⟩ tw_511 (Or.inl rfl) rfl d_MD_layer_102 ?_
            refine g_1 (fun w => lv_sipush (v := iZ 1024) X.1 X.2.1 d_MD_layer_105 (by decide) w) ?_
            refine g_1 (fun w => lv_aload_n X.1 X.2.1 d_MD_layer_108 rfl (lv_at hl 3 rfl) w) ?_
            refine g_get X (ci := 4) rfl f0 8 (by decide) ⟨rfl, rfl⟩ tw_510 (Or.inl rfl) rfl d_MD_layer_109 ?_
            refine g_1 (fun w => lv_iconst (v := iZ 1) X.1 X.2.1 d_MD_layer_112 rfl w) ?_
            refine g_isub X d_MD_layer_113 ?_
            refine g_imul X d_MD_layer_114 ?_
            refine g_1 (fun w => lv_iload_n X.1 X.2.1 d_MD_layer_115 rfl (lv_at hl 0 rfl) w) ?_
            refine g_iadd X d_MD_layer_116 ?_
            refine g_ild X f9 (1024 * (yn - 1) + i) (by omega) (by omega) (by omega) d_MD_layer_117 ?_
            refine g_ti (congrArg iZ (show (aC M (1024 * (yn - 1) + i) : Int) = bL (bs i) from (hcut i (by omega)).2 (by omega))) ?_
            refine g_ist X f13 (Nat.succ_ne_zero _) (i) (rfl) (by omega) (by omega) d_MD_layer_118 ?_
            obtain ⟨h_1, eh_1⟩ : ∃ z, z = g_up hh p13 ((29, a), gI D 1024 (va_up (kk_) (i) (bL (bs i)))) := ⟨_, rfl⟩
            refine g_h (h' := h_1) eh_1.symm ?_
            have f_2 : h_1 a = some ((20, 0), .inr (4, [.int (iZ (0)), .int (iZ (mN M)), .int (iZ (mA M)), .ref p3, .ref p4, .int (iZ (mU M)), .ref p6, .ref p7, .int (iZ (mY M)), .ref p9, .ref p10, .ref p11, .ref p12, .ref p13, .ref p14])) := by rw [eh_1]; exact g_uk f0 f13 (show (20 : Nat) ≠ 29 by decide)
            have f_3 : h_1 p3 = some ((21, a), gI D 1024 (aP M)) := by rw [eh_1]; exact g_uk f3 f13 (show (21 : Nat) ≠ 29 by decide)
            have f_4 : h_1 p4 = some ((22, a), gI D 1024 (aB M)) := by rw [eh_1]; exact g_uk f4 f13 (show (22 : Nat) ≠ 29 by decide)
            have f_5 : h_1 p6 = some ((23, a), gI D 17408 (aY M)) := by rw [eh_1]; exact g_uk f6 f13 (show (23 : Nat) ≠ 29 by decide)
            have f_6 : h_1 p7 = some ((24, a), gL D 17408 (aG M)) := by rw [eh_1]; exact g_uk f7 f13 (show (24 : Nat) ≠ 29 by decide)
            have f_7 : h_1 p9 = some ((25, a), gI D 65536 (aC M)) := by rw [eh_1]; exact g_uk f9 f13 (show (25 : Nat) ≠ 29 by decide)
            have f_8 : h_1 p10 = some ((26, a), gI D 64 (aT M)) := by rw [eh_1]; exact g_uk f10 f13 (show (26 : Nat) ≠ 29 by decide)
            have f_9 : h_1 p11 = some ((27, a), gL D 64 (va_up (aL M) yn (-1))) := by rw [eh_1]; exact g_uk f11 f13 (show (27 : Nat) ≠ 29 by decide)
            have f_10 : h_1 p12 = some ((28, a), gI D 64 (va_up (aM M) yn (-1))) := by rw [eh_1]; exact g_uk f12 f13 (show (28 : Nat) ≠ 29 by decide)
            have f_11 : h_1 p13 = some ((29, a), gI D 1024 (va_up (kk_) (i) (bL (bs i)))) := by rw [eh_1]; exact g_us
            have f_12 : h_1 p14 = some ((30, a), gI D 1024 (xx_)) := by rw [eh_1]; exact g_uk f14 f13 (show (30 : Nat) ≠ 29 by decide)
            have hk_13 := kp_up (hkk) eh_1 f13 (⟨Nat.le_of_ble_eq_true rfl, Nat.le_of_ble_eq_true rfl⟩)
            refine g_1 (fun w => lv_aload_n X.1 X.2.1 d_MD_layer_119 rfl (lv_at hl 3 rfl) w) ?_
            refine g_get X (ci := 4) rfl f_2 14 (by decide) ⟨rfl, rfl⟩ tw_516 (Or.inl rfl) rfl d_MD_layer_120 ?_
            refine g_1 (fun w => lv_iload_n X.1 X.2.1 d_MD_layer_123 rfl (lv_at hl 0 rfl) w) ?_
            refine g_1 (fun w => lv_iload_n X.1 X.2.1 d_MD_layer_124 rfl (lv_at hl 2 rfl) w) ?_
            refine g_1 (fun w => lv_iconst (v := iZ (-1)) X.1 X.2.1 d_MD_layer_125 rfl w) ?_
            refine g_icmp_ne (tgt := 133) X (by first | exact ⟨by omega, by omega⟩ | (split <;> exact ⟨by omega, by omega⟩) | exact cmpZ_ok _ _ | exact mul_ok (by omega) (by omega) (by omega) (by omega)) (by first | exact ⟨by omega, by omega⟩ | (split <;> exact ⟨by omega, by omega⟩) | exact cmpZ_ok _ _ | exact mul_ok (by omega) (by omega) (by omega) (by omega)) d_MD_layer_126 (by decide) (fun c126 => ?_) (fun c126 => ?_)
            · have hm3 : isMD D h_1 a (mKX (mLM (0, M.2) (va_up (aL M) yn (-1)) (va_up (aM M) yn (-1))) (va_up (kk_) (i) (bL (bs i))) xx_) := ⟨p3, p4, p6, p7, p9, p10, p11, p12, p13, p14, f_2, f_3, f_4, f_5, f_6, f_7, f_8, f_9, f_10, f_11, f_12⟩
              refine g_1 (fun w => lv_aload_n X.1 X.2.1 d_MD_layer_133 rfl (lv_at hl 3 rfl) w) ?_
              refine g_1 (fun w => lv_iload_n X.1 X.2.1 d_MD_layer_134 rfl (lv_at hl 0 rfl) w) ?_
              refine g_1 (fun w => lv_aload_n X.1 X.2.1 d_MD_layer_135 rfl (lv_at hl 3 rfl) w) ?_
              refine g_get X (ci := 4) rfl f_2 13 (by decide) ⟨rfl, rfl⟩ tw_515 (Or.inl rfl) rfl d_MD_layer_136 ?_
              refine g_1 (fun w => lv_iload_n X.1 X.2.1 d_MD_layer_139 rfl (lv_at hl 0 rfl) w) ?_
              refine g_ild X f_11 (i) (rfl) (by omega) (by omega) d_MD_layer_140 ?_
              refine g_ti (congrArg iZ (show ((va_up (kk_) (i) (bL (bs i))) i : Int) = bL (bs i) from va_up_self _ _ _)) ?_
              refine g_callV (na := 2) X (c_MD_stepFrom B0 hm3 (mV_kx hv) hw i (bL (bs i)) (by omega) k4) rfl f_2 rfl ⟨⟨tw_585, tw_5⟩, ⟨by decide, by decide, by decide +kernel⟩, by decide, by decide⟩ tw_582 tw_584 ts_MD_stepFrom rfl hl.1 (Nat.le_of_ble_eq_true rfl) ⟨by decide, by decide⟩ d_MD_layer_141 (fun v h' hp => ?_)
              obtain ⟨rfl, rfl⟩ := hp
              refine g_widen (k' := 0) (n' := 0) (by decide) (by decide) ?_
              show G D s0 p l e _ s m _ below meth c h_1 _ _ _ (F0 m 144 ls [.int (iZ (eN (sfr (bs i) (bL (bs i)) (bP (bs i))))), .int (iZ (i)), .ref p14])
              refine g_ist X f_12 (Nat.succ_ne_zero _) (i) (rfl) (by omega) (by omega) d_MD_layer_144 ?_
              obtain ⟨h_14, eh_14⟩ : ∃ z, z = g_up h_1 p14 ((30, a), gI D 1024 (va_up (xx_) (i) (eN (sfr (bs i) (bL (bs i)) (bP (bs i)))))) := ⟨_, rfl⟩
              refine g_h (h' := h_14) eh_14.symm ?_
              have f_15 : h_14 a = some ((20, 0), .inr (4, [.int (iZ (0)), .int (iZ (mN M)), .int (iZ (mA M)), .ref p3, .ref p4, .int (iZ (mU M)), .ref p6, .ref p7, .int (iZ (mY M)), .ref p9, .ref p10, .ref p11, .ref p12, .ref p13, .ref p14])) := by rw [eh_14]; exact g_uk f_2 f_12 (show (20 : Nat) ≠ 30 by decide)
              have f_16 : h_14 p3 = some ((21, a), gI D 1024 (aP M)) := by rw [eh_14]; exact g_uk f_3 f_12 (show (21 : Nat) ≠ 30 by decide)
              have f_17 : h_14 p4 = some ((22, a), gI D 1024 (aB M)) := by rw [eh_14]; exact g_uk f_4 f_12 (show (22 : Nat) ≠ 30 by decide)
              have f_18 : h_14 p6 = some ((23, a), gI D 17408 (aY M)) := by rw [eh_14]; exact g_uk f_5 f_12 (show (23 : Nat) ≠ 30 by decide)
              have f_19 : h_14 p7 = some ((24, a), gL D 17408 (aG M)) := by rw [eh_14]; exact g_uk f_6 f_12 (show (24 : Nat) ≠ 30 by decide)
              have f_20 : h_14 p9 = some ((25, a), gI D 65536 (aC M)) := by rw [eh_14]; exact g_uk f_7 f_12 (show (25 : Nat) ≠ 30 by decide)
              have f_21 : h_14 p10 = some ((26, a), gI D 64 (aT M)) := by rw [eh_14]; exact g_uk f_8 f_12 (show (26 : Nat) ≠ 30 by decide)
              have f_22 : h_14 p11 = some ((27, a), gL D 64 (va_up (aL M) yn (-1))) := by rw [eh_14]; exact g_uk f_9 f_12 (show (27 : Nat) ≠ 30 by decide)
              have f_23 : h_14 p12 = some ((28, a), gI D 64 (va_up (aM M) yn (-1))) := by rw [eh_14]; exact g_uk f_10 f_12 (show (28 : Nat) ≠ 30 by decide)
              have f_24 : h_14 p13 = some ((29, a), gI D 1024 (va_up (kk_) (i) (bL (bs i)))) := by rw [eh_14]; exact g_uk f_11 f_12 (show (29 : Nat) ≠ 30 by decide)
              have f_25 : h_14 p14 = some ((30, a), gI D 1024 (va_up (xx_) (i) (eN (sfr (bs i) (bL (bs i)) (bP (bs i)))))) := by rw [eh_14]; exact g_us
              have hk_26 := kp_up (hk_13) eh_14 f_12 (⟨Nat.le_of_ble_eq_true rfl, Nat.le_of_ble_eq_true rfl⟩)
              refine g_s (fun kk => lv_iinc (v := iZ (i + 1)) (lv' := [(3, .int (iZ (i + 1))), (2, .int (iZ (0))), (1, .int (iZ (bud))), (0, .ref a)]) X.1 X.2.1 d_MD_layer_145 hl (k := 0) rfl (iZ_add _ _) (by decide) rfl kk) (fun ls hl => ?_)
              refine g_goto (tgt := 63) X d_MD_layer_148 (by decide) ?_
              exact ih (i + 1) h_14 (va_up (kk_) (i) (bL (bs i))) (va_up (xx_) (i) (eN (sfr (bs i) (bL (bs i)) (bP (bs i))))) ls (by omega) hy64 hbm ⟨p3, p4, p6, p7, p9, p10, p11, p12, p13, p14, f_15, f_16, f_17, f_18, f_19, f_20, f_21, f_22, f_23, f_24, f_25⟩ (cV_snoc hc2 rfl (eN_nx hw1)) hk_26 (lv_sub hl [0, 1, 2, 3] rfl)
            · exact absurd c126 hbd
          · refine g_1 (fun w => lv_iconst (v := iZ 0) X.1 X.2.1 d_MD_layer_97 rfl w) ?_
            refine g_goto (tgt := 118) X d_MD_layer_98 (by decide) ?_
            refine g_ti (congrArg iZ (show (0 : Int) = bL (bs i) from by have z := (hcut i (by omega)).1 (by omega); omega)) ?_
            refine g_ist X f13 (Nat.succ_ne_zero _) (i) (rfl) (by omega) (by omega) d_MD_layer_118 ?_
            obtain ⟨h_27, eh_27⟩ : ∃ z, z = g_up hh p13 ((29, a), gI D 1024 (va_up (kk_) (i) (bL (bs i)))) := ⟨_, rfl⟩
            refine g_h (h' := h_27) eh_27.symm ?_
            have f_28 : h_27 a = some ((20, 0), .inr (4, [.int (iZ (0)), .int (iZ (mN M)), .int (iZ (mA M)), .ref p3, .ref p4, .int (iZ (mU M)), .ref p6, .ref p7, .int (iZ (mY M)), .ref p9, .ref p10, .ref p11, .ref p12, .ref p13, .ref p14])) := by rw [eh_27]; exact g_uk f0 f13 (show (20 : Nat) ≠ 29 by decide)
            have f_29 : h_27 p3 = some ((21, a), gI D 1024 (aP M)) := by rw [eh_27]; exact g_uk f3 f13 (show (21 : Nat) ≠ 29 by decide)
            have f_30 : h_27 p4 = some ((22, a), gI D 1024 (aB M)) := by rw [eh_27]; exact g_uk f4 f13 (show (22 : Nat) ≠ 29 by decide)
            have f_31 : h_27 p6 = some ((23, a), gI D 17408 (aY M)) := by rw [eh_27]; exact g_uk f6 f13 (show (23 : Nat) ≠ 29 by decide)
            have f_32 : h_27 p7 = some ((24, a), gL D 17408 (aG M)) := by rw [eh_27]; exact g_uk f7 f13 (show (24 : Nat) ≠ 29 by decide)
            have f_33 : h_27 p9 = some ((25, a), gI D 65536 (aC M)) := by rw [eh_27]; exact g_uk f9 f13 (show (25 : Nat) ≠ 29 by decide)
            have f_34 : h_27 p10 = some ((26, a), gI D 64 (aT M)) := by rw [eh_27]; exact g_uk f10 f13 (show (26 : Nat) ≠ 29 by decide)
            have f_35 : h_27 p11 = some ((27, a), gL D 64 (va_up (aL M) yn (-1))) := by rw [eh_27]; exact g_uk f11 f13 (show (27 : Nat) ≠ 29 by decide)
            have f_36 : h_27 p12 = some ((28, a), gI D 64 (va_up (aM M) yn (-1))) := by rw [eh_27]; exact g_uk f12 f13 (show (28 : Nat) ≠ 29 by decide)
            have f_37 : h_27 p13 = some ((29, a), gI D 1024 (va_up (kk_) (i) (bL (bs i)))) := by rw [eh_27]; exact g_us
            have f_38 : h_27 p14 = some ((30, a), gI D 1024 (xx_)) := by rw [eh_27]; exact g_uk f14 f13 (show (30 : Nat) ≠ 29 by decide)
            have hk_39 := kp_up (hkk) eh_27 f13 (⟨Nat.le_of_ble_eq_true rfl, Nat.le_of_ble_eq_true rfl⟩)
            refine g_1 (fun w => lv_aload_n X.1 X.2.1 d_MD_layer_119 rfl (lv_at hl 3 rfl) w) ?_
            refine g_get X (ci := 4) rfl f_28 14 (by decide) ⟨rfl, rfl⟩ tw_516 (Or.inl rfl) rfl d_MD_layer_120 ?_
            refine g_1 (fun w => lv_iload_n X.1 X.2.1 d_MD_layer_123 rfl (lv_at hl 0 rfl) w) ?_
            refine g_1 (fun w => lv_iload_n X.1 X.2.1 d_MD_layer_124 rfl (lv_at hl 2 rfl) w) ?_
            refine g_1 (fun w => lv_iconst (v := iZ (-1)) X.1 X.2.1 d_MD_layer_125 rfl w) ?_
            refine g_icmp_ne (tgt := 133) X (by first | exact ⟨by omega, by omega⟩ | (split <;> exact ⟨by omega, by omega⟩) | exact cmpZ_ok _ _ | exact mul_ok (by omega) (by omega) (by omega) (by omega)) (by first | exact ⟨by omega, by omega⟩ | (split <;> exact ⟨by omega, by omega⟩) | exact cmpZ_ok _ _ | exact mul_ok (by omega) (by omega) (by omega) (by omega)) d_MD_layer_126 (by decide) (fun c126 => ?_) (fun c126 => ?_)
            · have hm3 : isMD D h_27 a (mKX (mLM (0, M.2) (va_up (aL M) yn (-1)) (va_up (aM M) yn (-1))) (va_up (kk_) (i) (bL (bs i))) xx_) := ⟨p3, p4, p6, p7, p9, p10, p11, p12, p13, p14, f_28, f_29, f_30, f_31, f_32, f_33, f_34, f_35, f_36, f_37, f_38⟩
              refine g_1 (fun w => lv_aload_n X.1 X.2.1 d_MD_layer_133 rfl (lv_at hl 3 rfl) w) ?_
              refine g_1 (fun w => lv_iload_n X.1 X.2.1 d_MD_layer_134 rfl (lv_at hl 0 rfl) w) ?_
              refine g_1 (fun w => lv_aload_n X.1 X.2.1 d_MD_layer_135 rfl (lv_at hl 3 rfl) w) ?_
              refine g_get X (ci := 4) rfl f_28 13 (by decide) ⟨rfl, rfl⟩ tw_515 (Or.inl rfl) rfl d_MD_layer_136 ?_
              refine g_1 (fun w => lv_iload_n X.1 X.2.1 d_MD_layer_139 rfl (lv_at hl 0 rfl) w) ?_
              refine g_ild X f_37 (i) (rfl) (by omega) (by omega) d_MD_layer_140 ?_
              refine g_ti (congrArg iZ (show ((va_up (kk_) (i) (bL (bs i))) i : Int) = bL (bs i) from va_up_self _ _ _)) ?_
              refine g_callV (na := 2) X (c_MD_stepFrom B0 hm3 (mV_kx hv) hw i (bL (bs i)) (by omega) k4) rfl f_28 rfl ⟨⟨tw_585, tw_5⟩, ⟨by decide, by decide, by decide +kernel⟩, by decide, by decide⟩ tw_582 tw_584 ts_MD_stepFrom rfl hl.1 (Nat.le_of_ble_eq_true rfl) ⟨by decide, by decide⟩ d_MD_layer_141 (fun v h' hp => ?_)
              obtain ⟨rfl, rfl⟩ := hp
              refine g_widen (k' := 0) (n' := 0) (by decide) (by decide) ?_
              show G D s0 p l e _ s m _ below meth c h_27 _ _ _ (F0 m 144 ls [.int (iZ (eN (sfr (bs i) (bL (bs i)) (bP (bs i))))), .int (iZ (i)), .ref p14])
              refine g_ist X f_38 (Nat.succ_ne_zero _) (i) (rfl) (by omega) (by omega) d_MD_layer_144 ?_
              obtain ⟨h_40, eh_40⟩ : ∃ z, z = g_up h_27 p14 ((30, a), gI D 1024 (va_up (xx_) (i) (eN (sfr (bs i) (bL (bs i)) (bP (bs i)))))) := ⟨_, rfl⟩
              refine g_h (h' := h_40) eh_40.symm ?_
              have f_41 : h_40 a = some ((20, 0), .inr (4, [.int (iZ (0)), .int (iZ (mN M)), .int (iZ (mA M)), .ref p3, .ref p4, .int (iZ (mU M)), .ref p6, .ref p7, .int (iZ (mY M)), .ref p9, .ref p10, .ref p11, .ref p12, .ref p13, .ref p14])) := by rw [eh_40]; exact g_uk f_28 f_38 (show (20 : Nat) ≠ 30 by decide)
              have f_42 : h_40 p3 = some ((21, a), gI D 1024 (aP M)) := by rw [eh_40]; exact g_uk f_29 f_38 (show (21 : Nat) ≠ 30 by decide)
              have f_43 : h_40 p4 = some ((22, a), gI D 1024 (aB M)) := by rw [eh_40]; exact g_uk f_30 f_38 (show (22 : Nat) ≠ 30 by decide)
              have f_44 : h_40 p6 = some ((23, a), gI D 17408 (aY M)) := by rw [eh_40]; exact g_uk f_31 f_38 (show (23 : Nat) ≠ 30 by decide)
              have f_45 : h_40 p7 = some ((24, a), gL D 17408 (aG M)) := by rw [eh_40]; exact g_uk f_32 f_38 (show (24 : Nat) ≠ 30 by decide)
              have f_46 : h_40 p9 = some ((25, a), gI D 65536 (aC M)) := by rw [eh_40]; exact g_uk f_33 f_38 (show (25 : Nat) ≠ 30 by decide)
              have f_47 : h_40 p10 = some ((26, a), gI D 64 (aT M)) := by rw [eh_40]; exact g_uk f_34 f_38 (show (26 : Nat) ≠ 30 by decide)
              have f_48 : h_40 p11 = some ((27, a), gL D 64 (va_up (aL M) yn (-1))) := by rw [eh_40]; exact g_uk f_35 f_38 (show (27 : Nat) ≠ 30 by decide)
              have f_49 : h_40 p12 = some ((28, a), gI D 64 (va_up (aM M) yn (-1))) := by rw [eh_40]; exact g_uk f_36 f_38 (show (28 : Nat) ≠ 30 by decide)
              have f_50 : h_40 p13 = some ((29, a), gI D 1024 (va_up (kk_) (i) (bL (bs i)))) := by rw [eh_40]; exact g_uk f_37 f_38 (show (29 : Nat) ≠ 30 by decide)
              have f_51 : h_40 p14 = some ((30, a), gI D 1024 (va_up (xx_) (i) (eN (sfr (bs i) (bL (bs i)) (bP (bs i)))))) := by rw [eh_40]; exact g_us
              have hk_52 := kp_up (hk_39) eh_40 f_38 (⟨Nat.le_of_ble_eq_true rfl, Nat.le_of_ble_eq_true rfl⟩)
              refine g_s (fun kk => lv_iinc (v := iZ (i + 1)) (lv' := [(3, .int (iZ (i + 1))), (2, .int (iZ (0))), (1, .int (iZ (bud))), (0, .ref a)]) X.1 X.2.1 d_MD_layer_145 hl (k := 0) rfl (iZ_add _ _) (by decide) rfl kk) (fun ls hl => ?_)
              refine g_goto (tgt := 63) X d_MD_layer_148 (by decide) ?_
              exact ih (i + 1) h_40 (va_up (kk_) (i) (bL (bs i))) (va_up (xx_) (i) (eN (sfr (bs i) (bL (bs i)) (bP (bs i))))) ls (by omega) hy64 hbm ⟨p3, p4, p6, p7, p9, p10, p11, p12, p13, p14, f_41, f_42, f_43, f_44, f_45, f_46, f_47, f_48, f_49, f_50, f_51⟩ (cV_snoc hc2 rfl (eN_nx hw1)) hk_52 (lv_sub hl [0, 1, 2, 3] rfl)
            · exact absurd c126 hbd
        · exact absurd c78 hbd
  refine g_1 (fun w => lv_iload_n X.1 X.2.1 d_MD_layer_0 rfl (lv_at hl 1 rfl) w) ?_
  refine g_1 (fun w => lv_iconst (v := iZ (-1)) X.1 X.2.1 d_MD_layer_1 rfl w) ?_
  refine g_icmp_ge (tgt := 9) X (by first | exact ⟨by omega, by omega⟩ | (split <;> exact ⟨by omega, by omega⟩) | exact cmpZ_ok _ _ | exact mul_ok (by omega) (by omega) (by omega) (by omega)) (by first | exact ⟨by omega, by omega⟩ | (split <;> exact ⟨by omega, by omega⟩) | exact cmpZ_ok _ _ | exact mul_ok (by omega) (by omega) (by omega) (by omega)) d_MD_layer_2 (by decide) (fun c2 => ?_) (fun c2 => ?_)
  · refine g_1 (fun w => lv_iconst (v := iZ 0) X.1 X.2.1 d_MD_layer_9 rfl w) ?_
    refine g_s (fun kk => lv_istore_n (lv' := [(2, .int (iZ (0))), (0, .ref a), (1, .int (iZ (bud)))]) X.1 X.2.1 d_MD_layer_10 rfl hl (by decide) rfl kk) (fun ls hl => ?_)
    refine g_1 (fun w => lv_aload_n X.1 X.2.1 d_MD_layer_11 rfl (lv_at hl 1 rfl) w) ?_
    refine g_1 (fun w => lv_iload_n X.1 X.2.1 d_MD_layer_12 rfl (lv_at hl 0 rfl) w) ?_
    refine g_1 (fun w => lv_iload_n X.1 X.2.1 d_MD_layer_13 rfl (lv_at hl 0 rfl) w) ?_
    refine g_if_ne (tgt := 30) X (by first | exact ⟨by omega, by omega⟩ | (split <;> exact ⟨by omega, by omega⟩) | exact cmpZ_ok _ _ | exact mul_ok (by omega) (by omega) (by omega) (by omega)) d_MD_layer_14 (by decide) (fun c14 => ?_) (fun c14 => ?_)
    · exact absurd c14 (by decide)
    · refine g_1 (fun w => lv_aload_n X.1 X.2.1 d_MD_layer_17 rfl (lv_at hl 1 rfl) w) ?_
      refine g_get X (ci := 4) rfl f0 8 (by decide) ⟨rfl, rfl⟩ tw_510 (Or.inl rfl) rfl d_MD_layer_18 ?_
      refine g_1 (fun w => lv_bipush (v := iZ 64) X.1 X.2.1 d_MD_layer_21 (by decide) w) ?_
      refine g_icmp_ne (tgt := 30) X (by first | exact ⟨by omega, by omega⟩ | (split <;> exact ⟨by omega, by omega⟩) | exact cmpZ_ok _ _ | exact mul_ok (by omega) (by omega) (by omega) (by omega)) (by first | exact ⟨by omega, by omega⟩ | (split <;> exact ⟨by omega, by omega⟩) | exact cmpZ_ok _ _ | exact mul_ok (by omega) (by omega) (by omega) (by omega)) d_MD_layer_23 (by decide) (fun c23 => ?_) (fun c23 => ?_)
      · refine g_1 (fun w => lv_iconst (v := iZ 0) X.1 X.2.1 d_MD_layer_30 rfl w) ?_
        refine g_callV (na := 2) X (c_MD_throwing B0 hm ⟨by omega, by omega⟩ ⟨by omega, by omega⟩ (t := 0) (by decide) (r := 0) (by decide)) rfl f0 rfl ⟨⟨tw_563, tw_5⟩, ⟨by decide, by decide, by decide +kernel⟩, by decide, by decide⟩ tw_560 tw_562 ts_MD_throwing rfl hl.1 (Nat.le_of_ble_eq_true rfl) ⟨by decide, by decide⟩ d_MD_layer_31 (fun v h_1 hp => ?_)
        obtain ⟨rfl, hm, hkT⟩ := hp
        obtain ⟨p3, p4, p6, p7, p9, p10, p11, p12, p13, p14, f0, f3, f4, f6, f7, f9, f10, f11, f12, f13, f14⟩ := id hm
        refine g_widen (k' := 0) (n' := 0) (by decide) (by decide) ?_
        show G D s0 p l e _ s m _ below meth c h_1 _ _ _ (F0 m 34 ls [.int (iZ (0))])
        refine g_if_eq (tgt := 39) X (by first | exact ⟨by omega, by omega⟩ | (split <;> exact ⟨by omega, by omega⟩) | exact cmpZ_ok _ _ | exact mul_ok (by omega) (by omega) (by omega) (by omega)) d_MD_layer_34 (by decide) (fun c34 => ?_) (fun c34 => ?_)
        · refine g_1 (fun w => lv_aload_n X.1 X.2.1 d_MD_layer_39 rfl (lv_at hl 1 rfl) w) ?_
          refine g_get X (ci := 4) rfl f0 11 (by decide) ⟨rfl, rfl⟩ tw_513 (Or.inl rfl) rfl d_MD_layer_40 ?_
          refine g_1 (fun w => lv_aload_n X.1 X.2.1 d_MD_layer_43 rfl (lv_at hl 1 rfl) w) ?_
          refine g_get X (ci := 4) rfl f0 8 (by decide) ⟨rfl, rfl⟩ tw_510 (Or.inl rfl) rfl d_MD_layer_44 ?_
          refine g_1 (fun w => lv_ldc2 X.1 X.2.1 X.2.2.2.2.2.1 (X.w tw_609 rfl) d_MD_layer_47 w) ?_
          refine g_tl (show _ = lZ (-1) by decide) ?_
          refine g_lst X f11 (Nat.succ_ne_zero _) (yn) (l1) (by omega) (by omega) d_MD_layer_50 ?_
          obtain ⟨h_2, eh_2⟩ : ∃ z, z = g_up h_1 p11 ((27, a), gL D 64 (va_up (aL M) (yn) ((-1)))) := ⟨_, rfl⟩
          refine g_h (h' := h_2) eh_2.symm ?_
          have f_3 : h_2 a = some ((20, 0), .inr (4, [.int (iZ (0)), .int (iZ (mN M)), .int (iZ (mA M)), .ref p3, .ref p4, .int (iZ (mU M)), .ref p6, .ref p7, .int (iZ (mY M)), .ref p9, .ref p10, .ref p11, .ref p12, .ref p13, .ref p14])) := by rw [eh_2]; exact g_uk f0 f11 (show (20 : Nat) ≠ 27 by decide)
          have f_4 : h_2 p3 = some ((21, a), gI D 1024 (aP M)) := by rw [eh_2]; exact g_uk f3 f11 (show (21 : Nat) ≠ 27 by decide)
          have f_5 : h_2 p4 = some ((22, a), gI D 1024 (aB M)) := by rw [eh_2]; exact g_uk f4 f11 (show (22 : Nat) ≠ 27 by decide)
          have f_6 : h_2 p6 = some ((23, a), gI D 17408 (aY M)) := by rw [eh_2]; exact g_uk f6 f11 (show (23 : Nat) ≠ 27 by decide)
          have f_7 : h_2 p7 = some ((24, a), gL D 17408 (aG M)) := by rw [eh_2]; exact g_uk f7 f11 (show (24 : Nat) ≠ 27 by decide)
          have f_8 : h_2 p9 = some ((25, a), gI D 65536 (aC M)) := by rw [eh_2]; exact g_uk f9 f11 (show (25 : Nat) ≠ 27 by decide)
          have f_9 : h_2 p10 = some ((26, a), gI D 64 (aT M)) := by rw [eh_2]; exact g_uk f10 f11 (show (26 : Nat) ≠ 27 by decide)
          have f_10 : h_2 p11 = some ((27, a), gL D 64 (va_up (aL M) (yn) ((-1)))) := by rw [eh_2]; exact g_us
          have f_11 : h_2 p12 = some ((28, a), gI D 64 (aM M)) := by rw [eh_2]; exact g_uk f12 f11 (show (28 : Nat) ≠ 27 by decide)
          have f_12 : h_2 p13 = some ((29, a), gI D 1024 (aK M)) := by rw [eh_2]; exact g_uk f13 f11 (show (29 : Nat) ≠ 27 by decide)
          have f_13 : h_2 p14 = some ((30, a), gI D 1024 (aX M)) := by rw [eh_2]; exact g_uk f14 f11 (show (30 : Nat) ≠ 27 by decide)
          have hk_14 := kp_up (hkT) eh_2 f11 (⟨Nat.le_of_ble_eq_true rfl, Nat.le_of_ble_eq_true rfl⟩)
          refine g_1 (fun w => lv_aload_n X.1 X.2.1 d_MD_layer_51 rfl (lv_at hl 1 rfl) w) ?_
          refine g_get X (ci := 4) rfl f_3 12 (by decide) ⟨rfl, rfl⟩ tw_514 (Or.inl rfl) rfl d_MD_layer_52 ?_
          refine g_1 (fun w => lv_aload_n X.1 X.2.1 d_MD_layer_55 rfl (lv_at hl 1 rfl) w) ?_
          refine g_get X (ci := 4) rfl f_3 8 (by decide) ⟨rfl, rfl⟩ tw_510 (Or.inl rfl) rfl d_MD_layer_56 ?_
          refine g_1 (fun w => lv_iconst (v := iZ (-1)) X.1 X.2.1 d_MD_layer_59 rfl w) ?_
          refine g_ist X f_11 (Nat.succ_ne_zero _) (yn) (l1) (by omega) (by omega) d_MD_layer_60 ?_
          obtain ⟨h_15, eh_15⟩ : ∃ z, z = g_up h_2 p12 ((28, a), gI D 64 (va_up (aM M) (yn) ((-1)))) := ⟨_, rfl⟩
          refine g_h (h' := h_15) eh_15.symm ?_
          have f_16 : h_15 a = some ((20, 0), .inr (4, [.int (iZ (0)), .int (iZ (mN M)), .int (iZ (mA M)), .ref p3, .ref p4, .int (iZ (mU M)), .ref p6, .ref p7, .int (iZ (mY M)), .ref p9, .ref p10, .ref p11, .ref p12, .ref p13, .ref p14])) := by rw [eh_15]; exact g_uk f_3 f_11 (show (20 : Nat) ≠ 28 by decide)
          have f_17 : h_15 p3 = some ((21, a), gI D 1024 (aP M)) := by rw [eh_15]; exact g_uk f_4 f_11 (show (21 : Nat) ≠ 28 by decide)
          have f_18 : h_15 p4 = some ((22, a), gI D 1024 (aB M)) := by rw [eh_15]; exact g_uk f_5 f_11 (show (22 : Nat) ≠ 28 by decide)
          have f_19 : h_15 p6 = some ((23, a), gI D 17408 (aY M)) := by rw [eh_15]; exact g_uk f_6 f_11 (show (23 : Nat) ≠ 28 by decide)
          have f_20 : h_15 p7 = some ((24, a), gL D 17408 (aG M)) := by rw [eh_15]; exact g_uk f_7 f_11 (show (24 : Nat) ≠ 28 by decide)
          have f_21 : h_15 p9 = some ((25, a), gI D 65536 (aC M)) := by rw [eh_15]; exact g_uk f_8 f_11 (show (25 : Nat) ≠ 28 by decide)
          have f_22 : h_15 p10 = some ((26, a), gI D 64 (aT M)) := by rw [eh_15]; exact g_uk f_9 f_11 (show (26 : Nat) ≠ 28 by decide)
          have f_23 : h_15 p11 = some ((27, a), gL D 64 (va_up (aL M) (yn) ((-1)))) := by rw [eh_15]; exact g_uk f_10 f_11 (show (27 : Nat) ≠ 28 by decide)
          have f_24 : h_15 p12 = some ((28, a), gI D 64 (va_up (aM M) (yn) ((-1)))) := by rw [eh_15]; exact g_us
          have f_25 : h_15 p13 = some ((29, a), gI D 1024 (aK M)) := by rw [eh_15]; exact g_uk f_12 f_11 (show (29 : Nat) ≠ 28 by decide)
          have f_26 : h_15 p14 = some ((30, a), gI D 1024 (aX M)) := by rw [eh_15]; exact g_uk f_13 f_11 (show (30 : Nat) ≠ 28 by decide)
          have hk_27 := kp_up (hk_14) eh_15 f_11 (⟨Nat.le_of_ble_eq_true rfl, Nat.le_of_ble_eq_true rfl⟩)
          refine g_1 (fun w => lv_iconst (v := iZ 0) X.1 X.2.1 d_MD_layer_61 rfl w) ?_
          refine g_s (fun kk => lv_istore_n (lv' := [(3, .int (iZ (0))), (2, .int (iZ (0))), (0, .ref a), (1, .int (iZ (bud)))]) X.1 X.2.1 d_MD_layer_62 rfl hl (by decide) rfl kk) (fun ls hl => ?_)
          exact loop1 n 0 h_15 (aK M) (aX M) ls (by omega) (by omega) (by omega) ⟨p3, p4, p6, p7, p9, p10, p11, p12, p13, p14, f_16, f_17, f_18, f_19, f_20, f_21, f_22, f_23, f_24, f_25, f_26⟩ (fun b hb => absurd hb (Nat.not_lt_zero _)) hk_27 (lv_sub hl [0, 1, 3, 2] rfl)
        · exact absurd c34 (by decide)
      · refine g_1 (fun w => lv_iconst (v := iZ 1) X.1 X.2.1 d_MD_layer_26 rfl w) ?_
        refine g_goto (tgt := 31) X d_MD_layer_27 (by decide) ?_
        refine g_callV (na := 2) X (c_MD_throwing B0 hm ⟨by omega, by omega⟩ ⟨by omega, by omega⟩ (t := 2) (by decide) (r := 1) (by decide)) rfl f0 rfl ⟨⟨tw_563, tw_5⟩, ⟨by decide, by decide, by decide +kernel⟩, by decide, by decide⟩ tw_560 tw_562 ts_MD_throwing rfl hl.1 (Nat.le_of_ble_eq_true rfl) ⟨by decide, by decide⟩ d_MD_layer_31 (fun v h_28 hp => ?_)
        obtain ⟨rfl, hm, hkT⟩ := hp
        obtain ⟨p3, p4, p6, p7, p9, p10, p11, p12, p13, p14, f0, f3, f4, f6, f7, f9, f10, f11, f12, f13, f14⟩ := id hm
        refine g_widen (k' := 0) (n' := 0) (by decide) (by decide) ?_
        show G D s0 p l e _ s m _ below meth c h_28 _ _ _ (F0 m 34 ls [.int (iZ (1))])
        refine g_if_eq (tgt := 39) X (by first | exact ⟨by omega, by omega⟩ | (split <;> exact ⟨by omega, by omega⟩) | exact cmpZ_ok _ _ | exact mul_ok (by omega) (by omega) (by omega) (by omega)) d_MD_layer_34 (by decide) (fun c34 => ?_) (fun c34 => ?_)
        · exact absurd c34 (by decide)
        · refine g_1 (fun w => lv_iconst (v := iZ 0) X.1 X.2.1 d_MD_layer_37 rfl w) ?_
          exact g_iret X (⟨2, 0, rfl, hkT, Or.inr (Or.inl ⟨by omega, by omega, rfl, hm⟩)⟩) (by decide) (by decide) d_MD_layer_38
  · refine g_1 (fun w => lv_iconst (v := iZ 1) X.1 X.2.1 d_MD_layer_5 rfl w) ?_
    refine g_goto (tgt := 10) X d_MD_layer_6 (by decide) ?_
    refine g_s (fun kk => lv_istore_n (lv' := [(2, .int (iZ (1))), (0, .ref a), (1, .int (iZ (bud)))]) X.1 X.2.1 d_MD_layer_10 rfl hl (by decide) rfl kk) (fun ls hl => ?_)
    refine g_1 (fun w => lv_aload_n X.1 X.2.1 d_MD_layer_11 rfl (lv_at hl 1 rfl) w) ?_
    refine g_1 (fun w => lv_iload_n X.1 X.2.1 d_MD_layer_12 rfl (lv_at hl 0 rfl) w) ?_
    refine g_1 (fun w => lv_iload_n X.1 X.2.1 d_MD_layer_13 rfl (lv_at hl 0 rfl) w) ?_
    refine g_if_ne (tgt := 30) X (by first | exact ⟨by omega, by omega⟩ | (split <;> exact ⟨by omega, by omega⟩) | exact cmpZ_ok _ _ | exact mul_ok (by omega) (by omega) (by omega) (by omega)) d_MD_layer_14 (by decide) (fun c14 => ?_) (fun c14 => ?_)
    · refine g_1 (fun w => lv_iconst (v := iZ 0) X.1 X.2.1 d_MD_layer_30 rfl w) ?_
      refine g_callV (na := 2) X (c_MD_throwing B0 hm ⟨by omega, by omega⟩ ⟨by omega, by omega⟩ (t := 1) (by decide) (r := 1) (by decide)) rfl f0 rfl ⟨⟨tw_563, tw_5⟩, ⟨by decide, by decide, by decide +kernel⟩, by decide, by decide⟩ tw_560 tw_562 ts_MD_throwing rfl hl.1 (Nat.le_of_ble_eq_true rfl) ⟨by decide, by decide⟩ d_MD_layer_31 (fun v h_29 hp => ?_)
      obtain ⟨rfl, hm, hkT⟩ := hp
      obtain ⟨p3, p4, p6, p7, p9, p10, p11, p12, p13, p14, f0, f3, f4, f6, f7, f9, f10, f11, f12, f13, f14⟩ := id hm
      refine g_widen (k' := 0) (n' := 0) (by decide) (by decide) ?_
      show G D s0 p l e _ s m _ below meth c h_29 _ _ _ (F0 m 34 ls [.int (iZ (1))])
      refine g_if_eq (tgt := 39) X (by first | exact ⟨by omega, by omega⟩ | (split <;> exact ⟨by omega, by omega⟩) | exact cmpZ_ok _ _ | exact mul_ok (by omega) (by omega) (by omega) (by omega)) d_MD_layer_34 (by decide) (fun c34 => ?_) (fun c34 => ?_)
      · exact absurd c34 (by decide)
      · refine g_1 (fun w => lv_iconst (v := iZ 0) X.1 X.2.1 d_MD_layer_37 rfl w) ?_
        exact g_iret X (⟨1, 0, rfl, hkT, Or.inl ⟨by omega, rfl, hm⟩⟩) (by decide) (by decide) d_MD_layer_38
    · exact absurd c14 (by decide)

theorem c_MD_layer {D : va_G} {s0 : State} {l : Launch} {h : gH} (B0 : gB D s0) {a n : Nat} {M : Mdl} {bs : Nat → Blk} (hm : isMD D h a M) (hv : mV M n bs) (hw : ∀ b, b < n → wfC (bs b)) {yn : Nat} (l1 : mY M = yn) (l2 : yn ≤ 64) (hcut : ∀ b, b < n → (yn = 0 → bL (bs b) = 0) ∧ (0 < yn → aC M (1024 * (yn - 1) + b) = bL (bs b))) {bud tb : Int} (hbu : i_ok bud) {N : Nat} (hrem : rem bs n ≤ N) (htb : tb = totB bs n) {QQ : Tkg} (hQQ : QQ = layQ n N bud bs tb) : gMet D s0 l y_MD_layer b_MD_layer 5 (some .int) ({ frames := 4, cells := 0, slots := 0, locals := 96 } : Room) [.ref a, .int (iZ (bud))] h (fun v h' => ∃ t r : Int, some (.int (iZ r)) = v ∧ kp P_MD h h' ∧ ((bud < -1 ∧ t = 1 ∧ isMD D h' a (1, M.2)) ∨ (-1 ≤ bud ∧ ¬ yn < 64 ∧ t = 2 ∧ isMD D h' a (2, M.2)) ∨ (-1 ≤ bud ∧ yn < 64 ∧ t = 0 ∧ r = QQ.2.1 ∧ ∃ C' k x : Nat → Int, (∀ b, b < n → C' (1024 * yn + b) = bL (QQ.1 b)) ∧ (∀ j, j < 1024 * yn → C' j = aC M j) ∧ isMD D h' a (0, mN M, mA M, mU M, mY M + 1, aP M, aB M, aY M, aG M, C', va_up (aT M) yn (totB QQ.1 n), va_up (aL M) yn QQ.2.2.1, va_up (aM M) yn QQ.2.2.2, k, x)))) := by
  by_cases hbd : bud = -1
  · exact c_MD_layerN B0 hm hv hw l1 l2 hcut hbu hrem htb hQQ hbd
  · exact c_MD_layerB B0 hm hv hw l1 l2 hcut hbu hrem htb hQQ hbd
