/-! instructions in normal form: ints iZ z, longs lZ z -/
section GN
variable {D : va_G} {s0 : State} {p : Program} {l : Launch} {e : Env} {R : Room} {s : State} {m : MethodId} {args : Array Value} {below : List Frame} {meth : Method} {c : Code} {h : gH} {k n : Nat} {Q : State → Prop}
variable {own : String} {cc : ByteArray} {nL : Nat} {ret : Option FieldType} {pc : Nat} {ls : Array Slot} {rest : List Value}
theorem g_h {h' : gH} {g : JFrame} (e1 : h = h') (kk : G D s0 p l e R s m args below meth c h' k n Q g) : G D s0 p l e R s m args below meth c h k n Q g := by
  subst e1
  exact kk
theorem g_ti {x y : Int32} (e1 : x = y) (kk : G D s0 p l e R s m args below meth c h k n Q (F0 m pc ls (.int y :: rest))) : G D s0 p l e R s m args below meth c h k n Q (F0 m pc ls (.int x :: rest)) := by
  subst e1
  exact kk
theorem g_tl {x y : Int64} (e1 : x = y) (kk : G D s0 p l e R s m args below meth c h k n Q (F0 m pc ls (.long y :: rest))) : G D s0 p l e R s m args below meth c h k n Q (F0 m pc ls (.long x :: rest)) := by
  subst e1
  exact kk
theorem g_tv {x y : Value} (e1 : x = y) (kk : G D s0 p l e R s m args below meth c h k n Q (F0 m pc ls (y :: rest))) : G D s0 p l e R s m args below meth c h k n Q (F0 m pc ls (x :: rest)) := by
  subst e1
  exact kk
theorem g_st {st st2 : List Value} (e1 : st = st2) (kk : G D s0 p l e R s m args below meth c h k n Q (F0 m pc ls st2)) : G D s0 p l e R s m args below meth c h k n Q (F0 m pc ls st) := by
  subst e1
  exact kk
theorem g_iadd (X : gX D s0 own cc nL ret p s m meth c) {a b : Int} (hdg : decode cc pc = .ok (.iadd, 1)) (kk : G D s0 p l e R s m args below meth c h k n Q (F0 m (pc + 1) ls (.int (iZ (a + b)) :: rest))) : G D s0 p l e R s m args below meth c h k n Q (F0 m pc ls (.int (iZ b) :: .int (iZ a) :: rest)) :=
  g_1 (fun w => lv_iadd X.1 X.2.1 hdg w) (g_ti (iZ_add a b) kk)
theorem g_isub (X : gX D s0 own cc nL ret p s m meth c) {a b : Int} (hdg : decode cc pc = .ok (.isub, 1)) (kk : G D s0 p l e R s m args below meth c h k n Q (F0 m (pc + 1) ls (.int (iZ (a - b)) :: rest))) : G D s0 p l e R s m args below meth c h k n Q (F0 m pc ls (.int (iZ b) :: .int (iZ a) :: rest)) :=
  g_1 (fun w => lv_isub X.1 X.2.1 hdg w) (g_ti (iZ_sub a b) kk)
theorem g_imul (X : gX D s0 own cc nL ret p s m meth c) {a b : Int} (hdg : decode cc pc = .ok (.imul, 1)) (kk : G D s0 p l e R s m args below meth c h k n Q (F0 m (pc + 1) ls (.int (iZ (a * b)) :: rest))) : G D s0 p l e R s m args below meth c h k n Q (F0 m pc ls (.int (iZ b) :: .int (iZ a) :: rest)) :=
  g_1 (fun w => lv_imul X.1 X.2.1 hdg w) (g_ti (iZ_mul a b) kk)
theorem g_ladd (X : gX D s0 own cc nL ret p s m meth c) {a b : Int} (hdg : decode cc pc = .ok (.ladd, 1)) (kk : G D s0 p l e R s m args below meth c h k n Q (F0 m (pc + 1) ls (.long (lZ (a + b)) :: rest))) : G D s0 p l e R s m args below meth c h k n Q (F0 m pc ls (.long (lZ b) :: .long (lZ a) :: rest)) :=
  g_1 (fun w => lv_ladd X.1 X.2.1 hdg w) (g_tl (lZ_add a b) kk)
theorem g_lsub (X : gX D s0 own cc nL ret p s m meth c) {a b : Int} (hdg : decode cc pc = .ok (.lsub, 1)) (kk : G D s0 p l e R s m args below meth c h k n Q (F0 m (pc + 1) ls (.long (lZ (a - b)) :: rest))) : G D s0 p l e R s m args below meth c h k n Q (F0 m pc ls (.long (lZ b) :: .long (lZ a) :: rest)) :=
  g_1 (fun w => lv_lsub X.1 X.2.1 hdg w) (g_tl (lZ_sub a b) kk)
theorem g_lmul (X : gX D s0 own cc nL ret p s m meth c) {a b : Int} (hdg : decode cc pc = .ok (.lmul, 1)) (kk : G D s0 p l e R s m args below meth c h k n Q (F0 m (pc + 1) ls (.long (lZ (a * b)) :: rest))) : G D s0 p l e R s m args below meth c h k n Q (F0 m pc ls (.long (lZ b) :: .long (lZ a) :: rest)) :=
  g_1 (fun w => lv_lmul X.1 X.2.1 hdg w) (g_tl (lZ_mul a b) kk)
theorem g_i2l (X : gX D s0 own cc nL ret p s m meth c) {a : Int} (ha : i_ok a) (hdg : decode cc pc = .ok (.i2l, 1)) (kk : G D s0 p l e R s m args below meth c h k n Q (F0 m (pc + 1) ls (.long (lZ a) :: rest))) : G D s0 p l e R s m args below meth c h k n Q (F0 m pc ls (.int (iZ a) :: rest)) :=
  g_1 (fun w => lv_i2l X.1 X.2.1 hdg (iZ_L ha) w) kk
def cmpZ (a b : Int) : Int := if b < a then 1 else if a = b then 0 else -1
theorem g_lcmp (X : gX D s0 own cc nL ret p s m meth c) {a b : Int} (ha : l_ok a) (hb : l_ok b) (hdg : decode cc pc = .ok (.lcmp, 1)) (kk : G D s0 p l e R s m args below meth c h k n Q (F0 m (pc + 1) ls (.int (iZ (cmpZ a b)) :: rest))) : G D s0 p l e R s m args below meth c h k n Q (F0 m pc ls (.long (lZ b) :: .long (lZ a) :: rest)) := by
  refine g_1 (fun w => W.lcmp X.1 X.2.1 hdg w) (g_ti ?_ kk)
  unfold lg_cmp cmpZ
  simp only [lZ_lt hb ha, lZ_eq ha hb]
  split
  · rfl
  · split <;> rfl
theorem cmpZ_ok (a b : Int) : i_ok (cmpZ a b) := by
  unfold cmpZ
  split
  · exact ⟨by omega, by omega⟩
  · split <;> exact ⟨by omega, by omega⟩
theorem g_icmp_eq (X : gX D s0 own cc nL ret p s m meth c) {a b : Int} {off : Int} {tgt : Nat} (ha : i_ok a) (hb : i_ok b) (hdg : decode cc pc = .ok (.if_icmp .eq off, 3)) (ht : (pc : Int) + off = (tgt : Int)) (kt : a = b → G D s0 p l e R s m args below meth c h k n Q (F0 m tgt ls rest)) (kf : a ≠ b → G D s0 p l e R s m args below meth c h k n Q (F0 m (pc + 3) ls rest)) : G D s0 p l e R s m args below meth c h k n Q (F0 m pc ls (.int (iZ b) :: .int (iZ a) :: rest)) :=
  g_2 (fun k1 k2 => lv_icmp_eq X.1 X.2.1 hdg ht k1 k2) (fun q => kt (by simp only [iZ_eq ha hb, iZ_lt ha hb, iZ_le ha hb, iZ_lt hb ha, iZ_le hb ha] at q; omega)) (fun q => kf (by simp only [iZ_eq ha hb, iZ_lt ha hb, iZ_le ha hb, iZ_lt hb ha, iZ_le hb ha] at q; omega))
theorem g_if_eq (X : gX D s0 own cc nL ret p s m meth c) {a : Int} {off : Int} {tgt : Nat} (ha : i_ok a) (hdg : decode cc pc = .ok (.ifCond .eq off, 3)) (ht : (pc : Int) + off = (tgt : Int)) (kt : a = 0 → G D s0 p l e R s m args below meth c h k n Q (F0 m tgt ls rest)) (kf : a ≠ 0 → G D s0 p l e R s m args below meth c h k n Q (F0 m (pc + 3) ls rest)) : G D s0 p l e R s m args below meth c h k n Q (F0 m pc ls (.int (iZ a) :: rest)) :=
  g_2 (fun k1 k2 => lv_if_eq X.1 X.2.1 hdg ht k1 k2) (fun q => kt (by simp only [iZ_eq0 ha, iZ_lt0 ha, iZ_le0 ha, iZ_gt0 ha, iZ_ge0 ha] at q; omega)) (fun q => kf (by simp only [iZ_eq0 ha, iZ_lt0 ha, iZ_le0 ha, iZ_gt0 ha, iZ_ge0 ha] at q; omega))
theorem g_icmp_ne (X : gX D s0 own cc nL ret p s m meth c) {a b : Int} {off : Int} {tgt : Nat} (ha : i_ok a) (hb : i_ok b) (hdg : decode cc pc = .ok (.if_icmp .ne off, 3)) (ht : (pc : Int) + off = (tgt : Int)) (kt : a ≠ b → G D s0 p l e R s m args below meth c h k n Q (F0 m tgt ls rest)) (kf : a = b → G D s0 p l e R s m args below meth c h k n Q (F0 m (pc + 3) ls rest)) : G D s0 p l e R s m args below meth c h k n Q (F0 m pc ls (.int (iZ b) :: .int (iZ a) :: rest)) :=
  g_2 (fun k1 k2 => lv_icmp_ne X.1 X.2.1 hdg ht k1 k2) (fun q => kt (by simp only [iZ_eq ha hb, iZ_lt ha hb, iZ_le ha hb, iZ_lt hb ha, iZ_le hb ha] at q; omega)) (fun q => kf (by simp only [iZ_eq ha hb, iZ_lt ha hb, iZ_le ha hb, iZ_lt hb ha, iZ_le hb ha] at q; omega))
theorem g_if_ne (X : gX D s0 own cc nL ret p s m meth c) {a : Int} {off : Int} {tgt : Nat} (ha : i_ok a) (hdg : decode cc pc = .ok (.ifCond .ne off, 3)) (ht : (pc : Int) + off = (tgt : Int)) (kt : a ≠ 0 → G D s0 p l e R s m args below meth c h k n Q (F0 m tgt ls rest)) (kf : a = 0 → G D s0 p l e R s m args below meth c h k n Q (F0 m (pc + 3) ls rest)) : G D s0 p l e R s m args below meth c h k n Q (F0 m pc ls (.int (iZ a) :: rest)) :=
  g_2 (fun k1 k2 => lv_if_ne X.1 X.2.1 hdg ht k1 k2) (fun q => kt (by simp only [iZ_eq0 ha, iZ_lt0 ha, iZ_le0 ha, iZ_gt0 ha, iZ_ge0 ha] at q; omega)) (fun q => kf (by simp only [iZ_eq0 ha, iZ_lt0 ha, iZ_le0 ha, iZ_gt0 ha, iZ_ge0 ha] at q; omega))
theorem g_icmp_lt (X : gX D s0 own cc nL ret p s m meth c) {a b : Int} {off : Int} {tgt : Nat} (ha : i_ok a) (hb : i_ok b) (hdg : decode cc pc = .ok (.if_icmp .lt off, 3)) (ht : (pc : Int) + off = (tgt : Int)) (kt : a < b → G D s0 p l e R s m args below meth c h k n Q (F0 m tgt ls rest)) (kf : b ≤ a → G D s0 p l e R s m args below meth c h k n Q (F0 m (pc + 3) ls rest)) : G D s0 p l e R s m args below meth c h k n Q (F0 m pc ls (.int (iZ b) :: .int (iZ a) :: rest)) :=
  g_2 (fun k1 k2 => lv_icmp_lt X.1 X.2.1 hdg ht k1 k2) (fun q => kt (by simp only [iZ_eq ha hb, iZ_lt ha hb, iZ_le ha hb, iZ_lt hb ha, iZ_le hb ha] at q; omega)) (fun q => kf (by simp only [iZ_eq ha hb, iZ_lt ha hb, iZ_le ha hb, iZ_lt hb ha, iZ_le hb ha] at q; omega))
theorem g_if_lt (X : gX D s0 own cc nL ret p s m meth c) {a : Int} {off : Int} {tgt : Nat} (ha : i_ok a) (hdg : decode cc pc = .ok (.ifCond .lt off, 3)) (ht : (pc : Int) + off = (tgt : Int)) (kt : a < 0 → G D s0 p l e R s m args below meth c h k n Q (F0 m tgt ls rest)) (kf : 0 ≤ a → G D s0 p l e R s m args below meth c h k n Q (F0 m (pc + 3) ls rest)) : G D s0 p l e R s m args below meth c h k n Q (F0 m pc ls (.int (iZ a) :: rest)) :=
  g_2 (fun k1 k2 => lv_if_lt X.1 X.2.1 hdg ht k1 k2) (fun q => kt (by simp only [iZ_eq0 ha, iZ_lt0 ha, iZ_le0 ha, iZ_gt0 ha, iZ_ge0 ha] at q; omega)) (fun q => kf (by simp only [iZ_eq0 ha, iZ_lt0 ha, iZ_le0 ha, iZ_gt0 ha, iZ_ge0 ha] at q; omega))
theorem g_icmp_ge (X : gX D s0 own cc nL ret p s m meth c) {a b : Int} {off : Int} {tgt : Nat} (ha : i_ok a) (hb : i_ok b) (hdg : decode cc pc = .ok (.if_icmp .ge off, 3)) (ht : (pc : Int) + off = (tgt : Int)) (kt : b ≤ a → G D s0 p l e R s m args below meth c h k n Q (F0 m tgt ls rest)) (kf : a < b → G D s0 p l e R s m args below meth c h k n Q (F0 m (pc + 3) ls rest)) : G D s0 p l e R s m args below meth c h k n Q (F0 m pc ls (.int (iZ b) :: .int (iZ a) :: rest)) :=
  g_2 (fun k1 k2 => lv_icmp_ge X.1 X.2.1 hdg ht k1 k2) (fun q => kt (by simp only [iZ_eq ha hb, iZ_lt ha hb, iZ_le ha hb, iZ_lt hb ha, iZ_le hb ha] at q; omega)) (fun q => kf (by simp only [iZ_eq ha hb, iZ_lt ha hb, iZ_le ha hb, iZ_lt hb ha, iZ_le hb ha] at q; omega))
theorem g_if_ge (X : gX D s0 own cc nL ret p s m meth c) {a : Int} {off : Int} {tgt : Nat} (ha : i_ok a) (hdg : decode cc pc = .ok (.ifCond .ge off, 3)) (ht : (pc : Int) + off = (tgt : Int)) (kt : 0 ≤ a → G D s0 p l e R s m args below meth c h k n Q (F0 m tgt ls rest)) (kf : a < 0 → G D s0 p l e R s m args below meth c h k n Q (F0 m (pc + 3) ls rest)) : G D s0 p l e R s m args below meth c h k n Q (F0 m pc ls (.int (iZ a) :: rest)) :=
  g_2 (fun k1 k2 => lv_if_ge X.1 X.2.1 hdg ht k1 k2) (fun q => kt (by simp only [iZ_eq0 ha, iZ_lt0 ha, iZ_le0 ha, iZ_gt0 ha, iZ_ge0 ha] at q; omega)) (fun q => kf (by simp only [iZ_eq0 ha, iZ_lt0 ha, iZ_le0 ha, iZ_gt0 ha, iZ_ge0 ha] at q; omega))
theorem g_icmp_gt (X : gX D s0 own cc nL ret p s m meth c) {a b : Int} {off : Int} {tgt : Nat} (ha : i_ok a) (hb : i_ok b) (hdg : decode cc pc = .ok (.if_icmp .gt off, 3)) (ht : (pc : Int) + off = (tgt : Int)) (kt : b < a → G D s0 p l e R s m args below meth c h k n Q (F0 m tgt ls rest)) (kf : a ≤ b → G D s0 p l e R s m args below meth c h k n Q (F0 m (pc + 3) ls rest)) : G D s0 p l e R s m args below meth c h k n Q (F0 m pc ls (.int (iZ b) :: .int (iZ a) :: rest)) :=
  g_2 (fun k1 k2 => lv_icmp_gt X.1 X.2.1 hdg ht k1 k2) (fun q => kt (by simp only [iZ_eq ha hb, iZ_lt ha hb, iZ_le ha hb, iZ_lt hb ha, iZ_le hb ha] at q; omega)) (fun q => kf (by simp only [iZ_eq ha hb, iZ_lt ha hb, iZ_le ha hb, iZ_lt hb ha, iZ_le hb ha] at q; omega))
theorem g_if_gt (X : gX D s0 own cc nL ret p s m meth c) {a : Int} {off : Int} {tgt : Nat} (ha : i_ok a) (hdg : decode cc pc = .ok (.ifCond .gt off, 3)) (ht : (pc : Int) + off = (tgt : Int)) (kt : 0 < a → G D s0 p l e R s m args below meth c h k n Q (F0 m tgt ls rest)) (kf : a ≤ 0 → G D s0 p l e R s m args below meth c h k n Q (F0 m (pc + 3) ls rest)) : G D s0 p l e R s m args below meth c h k n Q (F0 m pc ls (.int (iZ a) :: rest)) :=
  g_2 (fun k1 k2 => lv_if_gt X.1 X.2.1 hdg ht k1 k2) (fun q => kt (by simp only [iZ_eq0 ha, iZ_lt0 ha, iZ_le0 ha, iZ_gt0 ha, iZ_ge0 ha] at q; omega)) (fun q => kf (by simp only [iZ_eq0 ha, iZ_lt0 ha, iZ_le0 ha, iZ_gt0 ha, iZ_ge0 ha] at q; omega))
theorem g_icmp_le (X : gX D s0 own cc nL ret p s m meth c) {a b : Int} {off : Int} {tgt : Nat} (ha : i_ok a) (hb : i_ok b) (hdg : decode cc pc = .ok (.if_icmp .le off, 3)) (ht : (pc : Int) + off = (tgt : Int)) (kt : a ≤ b → G D s0 p l e R s m args below meth c h k n Q (F0 m tgt ls rest)) (kf : b < a → G D s0 p l e R s m args below meth c h k n Q (F0 m (pc + 3) ls rest)) : G D s0 p l e R s m args below meth c h k n Q (F0 m pc ls (.int (iZ b) :: .int (iZ a) :: rest)) :=
  g_2 (fun k1 k2 => lv_icmp_le X.1 X.2.1 hdg ht k1 k2) (fun q => kt (by simp only [iZ_eq ha hb, iZ_lt ha hb, iZ_le ha hb, iZ_lt hb ha, iZ_le hb ha] at q; omega)) (fun q => kf (by simp only [iZ_eq ha hb, iZ_lt ha hb, iZ_le ha hb, iZ_lt hb ha, iZ_le hb ha] at q; omega))
theorem g_if_le (X : gX D s0 own cc nL ret p s m meth c) {a : Int} {off : Int} {tgt : Nat} (ha : i_ok a) (hdg : decode cc pc = .ok (.ifCond .le off, 3)) (ht : (pc : Int) + off = (tgt : Int)) (kt : a ≤ 0 → G D s0 p l e R s m args below meth c h k n Q (F0 m tgt ls rest)) (kf : 0 < a → G D s0 p l e R s m args below meth c h k n Q (F0 m (pc + 3) ls rest)) : G D s0 p l e R s m args below meth c h k n Q (F0 m pc ls (.int (iZ a) :: rest)) :=
  g_2 (fun k1 k2 => lv_if_le X.1 X.2.1 hdg ht k1 k2) (fun q => kt (by simp only [iZ_eq0 ha, iZ_lt0 ha, iZ_le0 ha, iZ_gt0 ha, iZ_ge0 ha] at q; omega)) (fun q => kf (by simp only [iZ_eq0 ha, iZ_lt0 ha, iZ_le0 ha, iZ_gt0 ha, iZ_ge0 ha] at q; omega))
theorem g_goto (X : gX D s0 own cc nL ret p s m meth c) {off : Int} {tgt : Nat} (hdg : decode cc pc = .ok (.goto off, 3)) (ht : (pc : Int) + off = (tgt : Int)) (kk : G D s0 p l e R s m args below meth c h k n Q (F0 m tgt ls rest)) : G D s0 p l e R s m args below meth c h k n Q (F0 m pc ls rest) := g_1 (fun w => lv_goto X.1 X.2.1 hdg ht w) kk
theorem g_ei {a b : Int} (e : a = b) : (some (Value.int (iZ a)) : Option Value) = some (.int (iZ b)) := by rw [e]
theorem g_el {a b : Int} (e : a = b) : (some (Value.long (lZ a)) : Option Value) = some (.long (lZ b)) := by rw [e]
end GN
