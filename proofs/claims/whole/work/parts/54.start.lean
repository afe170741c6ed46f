/-! WHAT HOLDS AT THE LAW'S ENTRY -/
def g_argless (w : Cond) : Bool := g_wk w || w.onTables || (match w with
  | .laysStatic .. => true
  | .stringRef .. => true
  | _ => false)
theorem g_argless_tbl : lw_tbl.all g_argless = true := by decide +kernel
theorem g_anyArgs {s : State} {A : Array Value} {w : Cond} (hw : w ∈ lw_tbl) (h : w.before A s = true) : w.before #[] s = true := by
  have z := List.all_eq_true.mp g_argless_tbl w hw
  unfold g_argless at z
  rw [Bool.or_eq_true, Bool.or_eq_true] at z
  rcases z with (z | z) | z
  · exact g_warm z (State.WarmedH.refl s) h
  · exact va_any z h
  · split at z
    · exact h
    · exact h
    · exact absurd z (by decide)
theorem g_arrOf {s : State} {c : ClassId} {k : Class} {comp : ClassId} {ty : FieldType} (hk : s.vm.classes[c]? = some k) (hkind : k.kind = .array comp ty) : ArrOfT s c ty := by
  intro n z
  refine ⟨fun q h => ?_, k, hk, comp, hkind⟩
  cases h
theorem g_string {s : State} {A : Array Value} {own tx : String} {k : Nat} (h1 : (Cond.stringRef own k tx).before A s = true) (h2 : (Cond.exactly (.string own k) "java/lang/String").before A s = true) : ∃ a : Nat, vk_R own k tx a s := by
  obtain ⟨a, c, cell, kk, ha, -⟩ := Cond.exactly_spec h2
  exact ⟨a, vk_R.of h1 ha⟩
set_option maxHeartbeats 4000000 in
set_option maxRecDepth 100000 in
theorem gB_start {s : State} {b : Nat} (hts : ∀ w ∈ lw_tbl, w.before #[Value.ref b] s = true) (hgv : (Jvm.Cond.and given_1 narrow_1).before #[Value.ref b] s = true) : ∃ D : va_G, gB D s := by
  have hs := flat_of_before _ hgv
  obtain ⟨c0, iS0, hKn0⟩ := u_known (C := R_LB) (T := F_LB) (N := 4) (n := 4) hts i_LB (hts (.instantiable R_LB 4) tw_22)
  obtain ⟨c1, iS1, hKn1⟩ := u_known (C := R_BK) (T := F_BK) (N := 7) (n := 7) hts i_BK (hts (.instantiable R_BK 7) tw_106)
  obtain ⟨c2, iS2, hKn2⟩ := u_known (C := R_LY) (T := F_LY) (N := 4) (n := 4) hts i_LY (hts (.instantiable R_LY 4) tw_390)
  obtain ⟨c3, iS3, hKn3⟩ := u_known (C := R_AL) (T := F_AL) (N := 3) (n := 3) hts i_AL (hts (.instantiable R_AL 3) tw_30)
  obtain ⟨c4, iS4, hKn4⟩ := u_known (C := R_MD) (T := F_MD) (N := 15) (n := 15) hts i_MD (hts (.instantiable R_MD 15) tw_496)
  obtain ⟨cI, kI, mI, hI1, hI2, hI3⟩ := Cond.arrayClass_spec (hts (.arrayClass .int) tw_217)
  obtain ⟨cJ, kJ, mJ, hJ1, hJ2, hJ3⟩ := Cond.arrayClass_spec (hts (.arrayClass .long) tw_218)
  obtain ⟨mO, cO, kO, hO0, -, hO2, hO3, hO1⟩ := Cond.arrayOver_spec (hts (.arrayOver (.object "java/lang/Object")) tw_264)
  have hA : ∀ q : Nat, q < s.heap.size → ¬ (fun q : Nat => s.heap.size ≤ q) q := fun q hq => Nat.not_le.mpr hq
  obtain ⟨tE, hE1, hE2⟩ := va_Tof (tm := .static "java/util/ArrayList" "DEFAULTCAPACITY_EMPTY_ELEMENTDATA" "[Ljava/lang/Object;") (ty := .object "java/lang/Object") (N := 0) (f := fun _ => .null) (A := fun q => s.heap.size ≤ q) (by decide) (hs _ (by decide +kernel)) (va_eqt (hs (.eq (.length (.static "java/util/ArrayList" "DEFAULTCAPACITY_EMPTY_ELEMENTDATA" "[Ljava/lang/Object;")) (.int 0)) (by decide +kernel))) (fun j hj => absurd hj (Nat.not_lt_zero _)) hA
  have hZ := va_Zof (A := fun q => s.heap.size ≤ q) (hts (.laysStatic "java/util/ArrayList" "DEFAULTCAPACITY_EMPTY_ELEMENTDATA" "[Ljava/lang/Object;") tw_42) (hts (.initialized "java/util/ArrayList") tw_4) hE1 hA
  obtain ⟨mi, hMi⟩ := va_Mi.of (hs (.isRef (.mirror "[Ljava/lang/Object;")) (by decide +kernel))
  obtain ⟨s35, hs35⟩ := g_string (hts (.stringRef "LayerBudgets" 35 "there are 1024 blocks") tw_161) (hs (.exactly (.string "LayerBudgets" 35) "java/lang/String") (by decide +kernel))
  obtain ⟨s53, hs53⟩ := g_string (hts (.stringRef "LayerBudgets" 53 "no such block") tw_295) (hs (.exactly (.string "LayerBudgets" 53) "java/lang/String") (by decide +kernel))
  obtain ⟨s56, hs56⟩ := g_string (hts (.stringRef "LayerBudgets" 56 "bytes below 0") tw_302) (hs (.exactly (.string "LayerBudgets" 56) "java/lang/String") (by decide +kernel))
  obtain ⟨s62, hs62⟩ := g_string (hts (.stringRef "LayerBudgets" 62 "gain not within -2^38 .. 2^38") tw_305) (hs (.exactly (.string "LayerBudgets" 62) "java/lang/String") (by decide +kernel))
  obtain ⟨s71, hs71⟩ := g_string (hts (.stringRef "LayerBudgets" 71 "too many passes or bytes") tw_311) (hs (.exactly (.string "LayerBudgets" 71) "java/lang/String") (by decide +kernel))
  obtain ⟨s83, hs83⟩ := g_string (hts (.stringRef "LayerBudgets" 83 "no such w") tw_346) (hs (.exactly (.string "LayerBudgets" 83) "java/lang/String") (by decide +kernel))
  obtain ⟨s90, hs90⟩ := g_string (hts (.stringRef "LayerBudgets" 90 "no such step") tw_360) (hs (.exactly (.string "LayerBudgets" 90) "java/lang/String") (by decide +kernel))
  obtain ⟨s104, hs104⟩ := g_string (hts (.stringRef "LayerBudgets" 104 "budget below NONE") tw_387) (hs (.exactly (.string "LayerBudgets" 104) "java/lang/String") (by decide +kernel))
  obtain ⟨s106, hs106⟩ := g_string (hts (.stringRef "LayerBudgets" 106 "there are 64 layers") tw_388) (hs (.exactly (.string "LayerBudgets" 106) "java/lang/String") (by decide +kernel))
  obtain ⟨s130, hs130⟩ := g_string (hts (.stringRef "LayerBudgets" 130 "no such layer") tw_480) (hs (.exactly (.string "LayerBudgets" 130) "java/lang/String") (by decide +kernel))
  refine ⟨(fun k => if k = 0 then c0 else if k = 1 then c1 else if k = 2 then c2 else if k = 3 then c3 else if k = 4 then c4 else if k = 100 then cI else if k = 101 then cJ else if k = 102 then cO else if k = 200 then tE else if k = 201 then mi else if k = 335 then s35 else if k = 353 then s53 else if k = 356 then s56 else if k = 362 then s62 else if k = 371 then s71 else if k = 383 then s83 else if k = 390 then s90 else if k = 404 then s104 else if k = 406 then s106 else if k = 430 then s130 else 0, fun k => if k = 0 then iS0 else if k = 1 then iS1 else if k = 2 then iS2 else if k = 3 then iS3 else if k = 4 then iS4 else iS0), fun w hw => g_anyArgs hw (hts w hw), ⟨fun k q hq => ?_, fun k q hq => ?_⟩, hZ, hE2, hMi, fun q hq => ?_, fun w hw => ?_⟩
  · match k, hq with
    | 0, hq => cases hq; exact hKn0
    | 1, hq => cases hq; exact hKn1
    | 2, hq => cases hq; exact hKn2
    | 3, hq => cases hq; exact hKn3
    | 4, hq => cases hq; exact hKn4
    | k + 5, hq => simp [vwCl] at hq
  · match k, hq with
    | 0, hq => cases hq; exact ⟨g_arrOf hI2 hI3, hI1⟩
    | 1, hq => cases hq; exact ⟨g_arrOf hJ2 hJ3, hJ1⟩
    | 2, hq => cases hq; exact ⟨g_arrOf hO2 hO3, kO, mO, hO2, hO3, hO0, hO1⟩
    | k + 3, hq => simp [g_tys] at hq
  · simp only [g_strs, List.mem_cons, List.not_mem_nil, or_false] at hq
    rcases hq with rfl | rfl | rfl | rfl | rfl | rfl | rfl | rfl | rfl | rfl
    · exact hs35
    · exact hs53
    · exact hs56
    · exact hs62
    · exact hs71
    · exact hs83
    · exact hs90
    · exact hs104
    · exact hs106
    · exact hs130
  · simp only [g_stw, List.mem_cons, List.not_mem_nil, or_false] at hw
    rcases hw with rfl | rfl | rfl | rfl | rfl | rfl | rfl | rfl
    · exact hs (.isRef (.static "java/lang/Throwable" "UNASSIGNED_STACK" "[Ljava/lang/StackTraceElement;")) (by decide +kernel)
    · exact hs (.isRef (.static "java/lang/Throwable" "SUPPRESSED_SENTINEL" "Ljava/util/List;")) (by decide +kernel)
    · exact hs (.not (.castable "java/lang/IllegalArgumentException" "java/lang/IllegalStateException")) (by decide +kernel)
    · exact hs (.not (.castable "java/lang/IndexOutOfBoundsException" "java/lang/IllegalStateException")) (by decide +kernel)
    · exact hs (.not (.castable "java/lang/IllegalStateException" "java/lang/IllegalArgumentException")) (by decide +kernel)
    · exact hs (.not (.castable "java/lang/IndexOutOfBoundsException" "java/lang/IllegalArgumentException")) (by decide +kernel)
    · exact hs (.not (.castable "java/lang/IllegalStateException" "java/lang/IndexOutOfBoundsException")) (by decide +kernel)
    · exact hs (.not (.castable "java/lang/IllegalArgumentException" "java/lang/IndexOutOfBoundsException")) (by decide +kernel)
