/-! NUMBERS: ints and longs by integers -/
def iZ (z : Int) : Int32 := Int32.ofInt z
def lZ (z : Int) : Int64 := Int64.ofInt z
abbrev i_ok (z : Int) : Prop := -2147483648 ≤ z ∧ z < 2147483648
abbrev l_ok (z : Int) : Prop := -9223372036854775808 ≤ z ∧ z < 9223372036854775808
theorem iZ_add (a b : Int) : iZ a + iZ b = iZ (a + b) := by simp [iZ, Int32.ofInt_add]
theorem iZ_sub (a b : Int) : iZ a - iZ b = iZ (a - b) := by simp [iZ, Int32.ofInt_sub]
theorem iZ_mul (a b : Int) : iZ a * iZ b = iZ (a * b) := by simp [iZ, Int32.ofInt_mul]
theorem lZ_add (a b : Int) : lZ a + lZ b = lZ (a + b) := by simp [lZ, Int64.ofInt_add]
theorem lZ_sub (a b : Int) : lZ a - lZ b = lZ (a - b) := by simp [lZ, Int64.ofInt_sub]
theorem lZ_mul (a b : Int) : lZ a * lZ b = lZ (a * b) := by simp [lZ, Int64.ofInt_mul]
theorem iZ_I {a : Int} (h : i_ok a) : (iZ a).toInt = a := Int32.toInt_ofInt_of_le (by have := h.1; omega) (by have := h.2; omega)
theorem lZ_I {a : Int} (h : l_ok a) : (lZ a).toInt = a := Int64.toInt_ofInt_of_le (by have := h.1; omega) (by have := h.2; omega)
theorem iZ_of (x : Int32) : i_ok x.toInt ∧ x = iZ x.toInt := by
  refine ⟨⟨?_, ?_⟩, (Int32.ofInt_toInt x).symm⟩
  · have := Int32.le_toInt x; omega
  · have := Int32.toInt_lt x; omega
theorem lZ_of (x : Int64) : l_ok x.toInt ∧ x = lZ x.toInt := by
  refine ⟨⟨?_, ?_⟩, (Int64.ofInt_toInt x).symm⟩
  · have := Int64.le_toInt x; omega
  · have := Int64.toInt_lt x; omega
theorem iZ_lt {a b : Int} (ha : i_ok a) (hb : i_ok b) : iZ a < iZ b ↔ a < b := by rw [Int32.lt_iff_toInt_lt, iZ_I ha, iZ_I hb]
theorem iZ_le {a b : Int} (ha : i_ok a) (hb : i_ok b) : iZ a ≤ iZ b ↔ a ≤ b := by rw [Int32.le_iff_toInt_le, iZ_I ha, iZ_I hb]
theorem iZ_eq {a b : Int} (ha : i_ok a) (hb : i_ok b) : iZ a = iZ b ↔ a = b := by rw [← Int32.toInt_inj, iZ_I ha, iZ_I hb]
theorem lZ_lt {a b : Int} (ha : l_ok a) (hb : l_ok b) : lZ a < lZ b ↔ a < b := by rw [Int64.lt_iff_toInt_lt, lZ_I ha, lZ_I hb]
theorem lZ_le {a b : Int} (ha : l_ok a) (hb : l_ok b) : lZ a ≤ lZ b ↔ a ≤ b := by rw [Int64.le_iff_toInt_le, lZ_I ha, lZ_I hb]
theorem lZ_eq {a b : Int} (ha : l_ok a) (hb : l_ok b) : lZ a = lZ b ↔ a = b := by rw [← Int64.toInt_inj, lZ_I ha, lZ_I hb]
theorem iZ_0 : (0 : Int32) = iZ 0 := by decide
theorem iZ_lt0 {a : Int} (ha : i_ok a) : iZ a < 0 ↔ a < 0 := by rw [iZ_0, iZ_lt ha (by decide)]
theorem iZ_le0 {a : Int} (ha : i_ok a) : iZ a ≤ 0 ↔ a ≤ 0 := by rw [iZ_0, iZ_le ha (by decide)]
theorem iZ_ge0 {a : Int} (ha : i_ok a) : 0 ≤ iZ a ↔ 0 ≤ a := by rw [iZ_0, iZ_le (by decide) ha]
theorem iZ_gt0 {a : Int} (ha : i_ok a) : 0 < iZ a ↔ 0 < a := by rw [iZ_0, iZ_lt (by decide) ha]
theorem iZ_eq0 {a : Int} (ha : i_ok a) : iZ a = 0 ↔ a = 0 := by rw [iZ_0, iZ_eq ha (by decide)]
theorem iZ_L {a : Int} (h : i_ok a) : (iZ a).toInt64 = lZ a := by
  rw [← Int64.toInt_inj, lZ_I ⟨by have := h.1; omega, by have := h.2; omega⟩]
  rw [Int32.toInt_toInt64, iZ_I h]
theorem iZ_n {i : Int} {j : Nat} (hi : i = (j : Int)) (hj : j < 2147483648) : (iZ i).toNatClampNeg = j := by
  subst hi
  show (iZ j).toInt.toNat = j
  rw [iZ_I ⟨by omega, by omega⟩]
  omega
theorem iZ_in {i : Int} {j n : Nat} (hi : i = (j : Int)) (hj : j < n) (hn : n < 2147483648) : vp_in (iZ i) n := by
  subst hi
  rw [vp_in_iff, iZ_I ⟨by omega, by omega⟩]
  omega
theorem iZ_nat (n : Nat) : Int32.ofNat n = iZ (n : Int) := by
  show Int32.ofNat n = Int32.ofInt (n : Int)
  first | rfl | simp
theorem iZ_nn {i : Int} (h0 : 0 ≤ i) (h1 : i < 2147483648) : ¬ iZ i < 0 := by
  rw [iZ_lt0 ⟨by omega, h1⟩]
  omega
