/-! numbers: the simple machine's integers beside the real one's -/
theorem jw32_bmod (z : Int) : w32 z = z.bmod (2 ^ 32) := by
  unfold w32 Int.bmod
  simp only [show ((2 ^ 32 : Nat) : Int) = 4294967296 from rfl]
  split <;> omega
theorem jw64_bmod (z : Int) : w64 z = z.bmod (2 ^ 64) := by
  unfold w64 Int.bmod
  simp only [show ((2 ^ 64 : Nat) : Int) = 18446744073709551616 from rfl]
  split <;> omega
theorem jw16_bmod (z : Int) : w16 z = z.bmod (2 ^ 16) := by
  unfold w16 Int.bmod
  simp only [show ((2 ^ 16 : Nat) : Int) = 65536 from rfl]
  split <;> omega
theorem jw8_bmod (z : Int) : w8 z = z.bmod (2 ^ 8) := by
  unfold w8 Int.bmod
  simp only [show ((2 ^ 8 : Nat) : Int) = 256 from rfl]
  split <;> omega
theorem jw32_in (z : Int) : -2147483648 ≤ w32 z ∧ w32 z < 2147483648 := by unfold w32; omega
theorem jw64_in (z : Int) : -9223372036854775808 ≤ w64 z ∧ w64 z < 9223372036854775808 := by unfold w64; omega
theorem jw16_in (z : Int) : -32768 ≤ w16 z ∧ w16 z < 32768 := by unfold w16; omega
theorem jw8_in (z : Int) : -128 ≤ w8 z ∧ w8 z < 128 := by unfold w8; omega
theorem jw32_id {z : Int} (h1 : -2147483648 ≤ z) (h2 : z < 2147483648) : w32 z = z := by unfold w32; omega
theorem jw64_id {z : Int} (h1 : -9223372036854775808 ≤ z) (h2 : z < 9223372036854775808) : w64 z = z := by unfold w64; omega
theorem j32 {z : Int} (h1 : -2147483648 ≤ z) (h2 : z < 2147483648) : (Int32.ofInt z).toInt = z := Int32.toInt_ofInt_of_le (by simpa using h1) (by simpa using h2)
theorem j64 {z : Int} (h1 : -9223372036854775808 ≤ z) (h2 : z < 9223372036854775808) : (Int64.ofInt z).toInt = z := Int64.toInt_ofInt_of_le (by simpa using h1) (by simpa using h2)
theorem j32w (z : Int) : Int32.ofInt (w32 z) = Int32.ofInt z := by
  rw [jw32_bmod]
  apply Int32.toInt_inj.mp
  rw [Int32.toInt_ofInt, Int32.toInt_ofInt]
  exact Int.bmod_bmod
theorem j64w (z : Int) : Int64.ofInt (w64 z) = Int64.ofInt z := by
  rw [jw64_bmod]
  apply Int64.toInt_inj.mp
  rw [Int64.toInt_ofInt, Int64.toInt_ofInt]
  exact Int.bmod_bmod
theorem j32_add (x y : Int) : Int32.ofInt x + Int32.ofInt y = Int32.ofInt (w32 (x + y)) := by rw [j32w, Int32.ofInt_add]
theorem j32_sub (x y : Int) : Int32.ofInt x - Int32.ofInt y = Int32.ofInt (w32 (x - y)) := by rw [j32w, Int32.ofInt_sub]
theorem j32_mul (x y : Int) : Int32.ofInt x * Int32.ofInt y = Int32.ofInt (w32 (x * y)) := by rw [j32w, Int32.ofInt_mul]
theorem j32_neg (x : Int) : -Int32.ofInt x = Int32.ofInt (w32 (-x)) := by rw [j32w, Int32.ofInt_neg]
theorem j64_add (x y : Int) : Int64.ofInt x + Int64.ofInt y = Int64.ofInt (w64 (x + y)) := by rw [j64w, Int64.ofInt_add]
theorem j64_sub (x y : Int) : Int64.ofInt x - Int64.ofInt y = Int64.ofInt (w64 (x - y)) := by rw [j64w, Int64.ofInt_sub]
theorem j64_mul (x y : Int) : Int64.ofInt x * Int64.ofInt y = Int64.ofInt (w64 (x * y)) := by rw [j64w, Int64.ofInt_mul]
theorem j64_neg (x : Int) : -Int64.ofInt x = Int64.ofInt (w64 (-x)) := by rw [j64w, Int64.ofInt_neg]
theorem j32_div {x y : Int} (hx : -2147483648 ≤ x ∧ x < 2147483648) (hy : -2147483648 ≤ y ∧ y < 2147483648) : Int32.ofInt x / Int32.ofInt y = Int32.ofInt (w32 (x.tdiv y)) := by
  rw [j32w]
  apply Int32.toInt_inj.mp
  rw [Int32.toInt_div, j32 hx.1 hx.2, j32 hy.1 hy.2, Int32.toInt_ofInt]
theorem j64_div {x y : Int} (hx : -9223372036854775808 ≤ x ∧ x < 9223372036854775808) (hy : -9223372036854775808 ≤ y ∧ y < 9223372036854775808) : Int64.ofInt x / Int64.ofInt y = Int64.ofInt (w64 (x.tdiv y)) := by
  rw [j64w]
  apply Int64.toInt_inj.mp
  rw [Int64.toInt_div, j64 hx.1 hx.2, j64 hy.1 hy.2, Int64.toInt_ofInt]
theorem j32_rem {x y : Int} (hx : -2147483648 ≤ x ∧ x < 2147483648) (hy : -2147483648 ≤ y ∧ y < 2147483648) : Int32.ofInt x - Int32.ofInt x / Int32.ofInt y * Int32.ofInt y = Int32.ofInt (x.tmod y) := by
  rw [j32_div hx hy, j32w, ← Int32.ofInt_mul, ← Int32.ofInt_sub]
  congr 1
  have := Int.tdiv_mul_add_tmod x y
  omega
theorem j64_rem {x y : Int} (hx : -9223372036854775808 ≤ x ∧ x < 9223372036854775808) (hy : -9223372036854775808 ≤ y ∧ y < 9223372036854775808) : Int64.ofInt x - Int64.ofInt x / Int64.ofInt y * Int64.ofInt y = Int64.ofInt (x.tmod y) := by
  rw [j64_div hx hy, j64w, ← Int64.ofInt_mul, ← Int64.ofInt_sub]
  congr 1
  have := Int.tdiv_mul_add_tmod x y
  omega
theorem jtmod_abs (x y : Int) (hy : y ≠ 0) : -(y.natAbs : Int) < x.tmod y ∧ x.tmod y < (y.natAbs : Int) ∧ ((0 ≤ x → 0 ≤ x.tmod y) ∧ (x ≤ 0 → x.tmod y ≤ 0)) := by
  rcases Int.le_total 0 x with h0 | h0
  · rw [Int.tmod_eq_emod_of_nonneg h0]
    have h1 := Int.emod_nonneg x hy
    have h2 := Int.emod_lt x hy
    refine ⟨by omega, by omega, fun _ => h1, fun h => ?_⟩
    have : x = 0 := by omega
    subst this
    simp
  · have e : x.tmod y = -((-x).tmod y) := by rw [Int.neg_tmod, Int.neg_neg]
    rw [e, Int.tmod_eq_emod_of_nonneg (by omega)]
    have h1 := Int.emod_nonneg (-x) hy
    have h2 := Int.emod_lt (-x) hy
    refine ⟨by omega, by omega, fun h => ?_, fun _ => by omega⟩
    have : x = 0 := by omega
    subst this
    simp
theorem j32_rem_in {x y : Int} (hy : -2147483648 ≤ y ∧ y < 2147483648) (h0 : y ≠ 0) : -2147483648 ≤ x.tmod y ∧ x.tmod y < 2147483648 := by
  have := jtmod_abs x y h0
  omega
theorem j64_rem_in {x y : Int} (hy : -9223372036854775808 ≤ y ∧ y < 9223372036854775808) (h0 : y ≠ 0) : -9223372036854775808 ≤ x.tmod y ∧ x.tmod y < 9223372036854775808 := by
  have := jtmod_abs x y h0
  omega
theorem j32_lt {x y : Int} (hx : -2147483648 ≤ x ∧ x < 2147483648) (hy : -2147483648 ≤ y ∧ y < 2147483648) : Int32.ofInt x < Int32.ofInt y ↔ x < y := by rw [Int32.lt_iff_toInt_lt, j32 hx.1 hx.2, j32 hy.1 hy.2]
theorem j32_le {x y : Int} (hx : -2147483648 ≤ x ∧ x < 2147483648) (hy : -2147483648 ≤ y ∧ y < 2147483648) : Int32.ofInt x ≤ Int32.ofInt y ↔ x ≤ y := by rw [Int32.le_iff_toInt_le, j32 hx.1 hx.2, j32 hy.1 hy.2]
theorem j32_eq {x y : Int} (hx : -2147483648 ≤ x ∧ x < 2147483648) (hy : -2147483648 ≤ y ∧ y < 2147483648) : Int32.ofInt x = Int32.ofInt y ↔ x = y := by rw [← Int32.toInt_inj, j32 hx.1 hx.2, j32 hy.1 hy.2]
theorem j64_lt {x y : Int} (hx : -9223372036854775808 ≤ x ∧ x < 9223372036854775808) (hy : -9223372036854775808 ≤ y ∧ y < 9223372036854775808) : Int64.ofInt x < Int64.ofInt y ↔ x < y := by rw [Int64.lt_iff_toInt_lt, j64 hx.1 hx.2, j64 hy.1 hy.2]
theorem j64_eq {x y : Int} (hx : -9223372036854775808 ≤ x ∧ x < 9223372036854775808) (hy : -9223372036854775808 ≤ y ∧ y < 9223372036854775808) : Int64.ofInt x = Int64.ofInt y ↔ x = y := by rw [← Int64.toInt_inj, j64 hx.1 hx.2, j64 hy.1 hy.2]
theorem j32_0 : (0 : Int32) = Int32.ofInt 0 := by decide
theorem j64_0 : (0 : Int64) = Int64.ofInt 0 := by decide
theorem j32_in (x : Int32) : -2147483648 ≤ x.toInt ∧ x.toInt < 2147483648 := ⟨by simpa using x.le_toInt, by simpa using x.toInt_lt⟩
theorem j64_in (x : Int64) : -9223372036854775808 ≤ x.toInt ∧ x.toInt < 9223372036854775808 := ⟨by simpa using x.le_toInt, by simpa using x.toInt_lt⟩
theorem j32_64 {x : Int} (h1 : -2147483648 ≤ x) (h2 : x < 2147483648) : (Int32.ofInt x).toInt64 = Int64.ofInt x := by
  apply Int64.toInt_inj.mp
  rw [Int32.toInt_toInt64, j32 h1 h2, j64 (by omega) (by omega)]
theorem j64_32 {x : Int} (h1 : -9223372036854775808 ≤ x) (h2 : x < 9223372036854775808) : (Int64.ofInt x).toInt32 = Int32.ofInt (w32 x) := by
  rw [j32w]
  apply Int32.toInt_inj.mp
  rw [Int64.toInt_toInt32, j64 h1 h2, Int32.toInt_ofInt]
theorem j32_8 {x : Int} (h1 : -2147483648 ≤ x) (h2 : x < 2147483648) : (Int32.ofInt x).toInt8.toInt32 = Int32.ofInt (w8 x) := by
  apply Int32.toInt_inj.mp
  have := jw8_in x
  rw [Int8.toInt_toInt32, Int32.toInt_toInt8, j32 h1 h2, j32 (by omega) (by omega), jw8_bmod]
theorem j32_16 {x : Int} (h1 : -2147483648 ≤ x) (h2 : x < 2147483648) : (Int32.ofInt x).toInt16.toInt32 = Int32.ofInt (w16 x) := by
  apply Int32.toInt_inj.mp
  have := jw16_in x
  rw [Int16.toInt_toInt32, Int32.toInt_toInt16, j32 h1 h2, j32 (by omega) (by omega), jw16_bmod]
theorem j32_clamp {i : Int} (h0 : 0 ≤ i) (h1 : i < 2147483648) : (Int32.ofInt i).toNatClampNeg = i.toNat := by
  show (Int32.ofInt i).toInt.toNat = i.toNat
  rw [j32 (by omega) h1]
theorem j32_vin {i : Int} {n : Nat} (h0 : 0 ≤ i) (h1 : i < 2147483648) (h : i.toNat < n) : vp_in (Int32.ofInt i) n := by
  rintro (a | a)
  · rw [j32_0, j32_lt ⟨by omega, h1⟩ ⟨by omega, by omega⟩] at a
    omega
  · rw [j32_clamp h0 h1] at a
    omega
theorem j32_b8 {v : Int} (h1 : -128 ≤ v) (h2 : v ≤ 127) : (Int8.ofInt v).toInt32 = Int32.ofInt v := by
  apply Int32.toInt_inj.mp
  rw [Int8.toInt_toInt32, Int8.toInt_ofInt, j32 (by omega) (by omega)]
  unfold Int.bmod
  simp only [show ((Int8.size : Nat) : Int) = 256 from rfl]
  split <;> omega
theorem j32_b16 {v : Int} (h1 : -32768 ≤ v) (h2 : v ≤ 32767) : (Int16.ofInt v).toInt32 = Int32.ofInt v := by
  apply Int32.toInt_inj.mp
  rw [Int16.toInt_toInt32, Int16.toInt_ofInt, j32 (by omega) (by omega)]
  unfold Int.bmod
  simp only [show ((Int16.size : Nat) : Int) = 65536 from rfl]
  split <;> omega
theorem j64_cmp {x y : Int} (hx : -9223372036854775808 ≤ x ∧ x < 9223372036854775808) (hy : -9223372036854775808 ≤ y ∧ y < 9223372036854775808) : lg_cmp (Int64.ofInt x) (Int64.ofInt y) = Int32.ofInt (jcmpL x y) := by
  unfold lg_cmp jcmpL
  simp only [gt_iff_lt, j64_lt hy hx, j64_eq hx hy]
  by_cases a : x < y
  · rw [if_neg (by omega), if_neg (by omega), if_pos a]
    decide
  · rw [if_neg a]
    by_cases b : x = y
    · rw [if_neg (by omega), if_pos b, if_pos b]
      decide
    · rw [if_pos (by omega), if_neg b]
      decide
