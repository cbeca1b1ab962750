theorem jmulb {x y a b : Int} (h1 : 0 ≤ x) (h2 : x ≤ a) (h3 : 0 ≤ y) (h4 : y ≤ b) : 0 ≤ x * y ∧ x * y ≤ a * b :=
  ⟨Int.mul_nonneg h1 h3, Int.mul_le_mul h2 h4 h3 (Int.le_trans h1 h2)⟩
theorem jshr_0 {x : Int} (h1 : -2147483648 ≤ x) (h2 : x < 2147483648) : jshr x 0 = x := by
  unfold jshr
  rw [show (Int32.ofInt 0 &&& 31) = 0 by decide]
  have e : Int32.ofInt x >>> (0 : Int32) = Int32.ofInt x := by
    apply Int32.toBitVec_inj.mp
    simp
  rw [e, j32 h1 h2]
theorem jidiv_b {x y : Int} (hy : 0 < y) : (0 ≤ x → 0 ≤ Int.tdiv x y ∧ Int.tdiv x y ≤ x) ∧ (x ≤ 0 → Int.tdiv x y ≤ 0 ∧ x ≤ Int.tdiv x y) := by
  refine ⟨fun h => ?_, fun h => ?_⟩
  · rw [Int.tdiv_eq_ediv_of_nonneg h]
    exact ⟨Int.ediv_nonneg h (by omega), Int.ediv_le_self y h⟩
  · have e : Int.tdiv x y = -(Int.tdiv (-x) y) := by rw [Int.neg_tdiv, Int.neg_neg]
    have h1 := Int.ediv_nonneg (a := -x) (b := y) (by omega) (by omega)
    have h2 := Int.ediv_le_self (a := -x) y (by omega)
    rw [e, Int.tdiv_eq_ediv_of_nonneg (by omega)]
    omega
theorem jirem_b {x y : Int} (hy : 0 < y) : (0 ≤ x → 0 ≤ Int.tmod x y) ∧ Int.tmod x y < y ∧ -y < Int.tmod x y ∧ (x ≤ 0 → Int.tmod x y ≤ 0) := by
  have := jtmod_abs x y (by omega)
  omega
theorem jret_b {pc n : Nat} {z v : Int} {K : List JE} (h : v = 0 ∨ v = 1) : jret ((pc, .ireturn, n, [1], z) :: K) [(0, v)] = some (some (0, v)) := by
  simp [jret, jhd, h]
theorem jcmpL_lt {x y : Int} (h : jcmpL x y < 0) : x < y := by
  unfold jcmpL at h
  split at h
  · assumption
  · split at h <;> omega
theorem jcmpL_ltN {x y : Int} (h : ¬ jcmpL x y < 0) : y ≤ x := by
  unfold jcmpL at h
  split at h
  · omega
  · omega
theorem jcmpL_le {x y : Int} (h : jcmpL x y ≤ 0) : x ≤ y := by
  unfold jcmpL at h
  split at h
  · omega
  · split at h <;> omega
theorem jcmpL_leN {x y : Int} (h : ¬ jcmpL x y ≤ 0) : y < x := by
  unfold jcmpL at h
  split at h
  · omega
  · split at h <;> omega
theorem jcmpL_ge {x y : Int} (h : 0 ≤ jcmpL x y) : y ≤ x := jcmpL_ltN (by omega)
theorem jcmpL_geN {x y : Int} (h : ¬ 0 ≤ jcmpL x y) : x < y := jcmpL_lt (by omega)
theorem jcmpL_gt {x y : Int} (h : 0 < jcmpL x y) : y < x := jcmpL_leN (by omega)
theorem jcmpL_gtN {x y : Int} (h : ¬ 0 < jcmpL x y) : x ≤ y := jcmpL_le (by omega)
theorem jcmpL_eq {x y : Int} (h : jcmpL x y = 0) : x = y := by
  unfold jcmpL at h
  split at h
  · omega
  · split at h
    · assumption
    · omega
theorem jcmpL_eqN {x y : Int} (h : ¬ jcmpL x y = 0) : x ≠ y := by
  intro e
  subst e
  apply h
  unfold jcmpL
  rw [if_neg (by omega), if_pos rfl]
theorem jcmpL_ne {x y : Int} (h : jcmpL x y ≠ 0) : x ≠ y := jcmpL_eqN h
theorem jcmpL_neN {x y : Int} (h : ¬ jcmpL x y ≠ 0) : x = y := jcmpL_eq (by omega)
/-! bits and quotients with their bounds -/
theorem jnI {x : Int} (h0 : 0 ≤ x) (h1 : x < 2147483648) : Int32.ofInt x = nI x.toNat := by
  apply Int32.toInt_inj.mp
  rw [j32 (by omega) h1, nI_toInt (by omega)]
  omega
theorem jnI_n {x : Int} (h0 : 0 ≤ x) (h1 : x < 2147483648) : (Int32.ofInt x).toBitVec.toNat = x.toNat := by
  rw [jnI h0 h1, pk_tn (by omega)]
theorem jtoI {z : Int32} (h : z.toBitVec.toNat < 2147483648) : z.toInt = (z.toBitVec.toNat : Int) := by
  show z.toBitVec.toInt = _
  rw [BitVec.toInt_eq_toNat_cond, if_pos (by omega)]
theorem jand_b (x : Int) {y : Int} (h0 : 0 ≤ y) (h1 : y < 2147483648) : 0 ≤ jand x y ∧ jand x y ≤ y := by
  unfold jand
  have e : (Int32.ofInt x &&& Int32.ofInt y).toBitVec.toNat ≤ y.toNat := by
    rw [Int32.toBitVec_and, BitVec.toNat_and, jnI_n h0 h1]
    exact Nat.and_le_right
  rw [jtoI (by omega)]
  omega
theorem jand_c (x y : Int) : jand x y = jand y x := by
  unfold jand
  rw [Int32.and_comm]
theorem jor_b {x y : Int} {k : Nat} (hk : k ≤ 31) (h0 : 0 ≤ x) (h1 : x < 2 ^ k) (h2 : 0 ≤ y) (h3 : y < 2 ^ k) : 0 ≤ jor x y ∧ jor x y < 2 ^ k := by
  unfold jor
  have hp : (2 : Int) ^ k ≤ 2147483648 := by
    have : (2 : Nat) ^ k ≤ 2 ^ 31 := Nat.pow_le_pow_right (by decide) hk
    have e : ((2 ^ k : Nat) : Int) = (2 : Int) ^ k := by simp
    omega
  have e : ((2 ^ k : Nat) : Int) = (2 : Int) ^ k := by simp
  have h := Nat.or_lt_two_pow (x := x.toNat) (y := y.toNat) (n := k) (by omega) (by omega)
  have e2 : (Int32.ofInt x ||| Int32.ofInt y).toBitVec.toNat = x.toNat ||| y.toNat := by
    rw [Int32.toBitVec_or, BitVec.toNat_or, jnI_n h0 (by omega), jnI_n h2 (by omega)]
  rw [jtoI (by rw [e2]; omega), e2]
  omega
theorem jxor_b {x y : Int} {k : Nat} (hk : k ≤ 31) (h0 : 0 ≤ x) (h1 : x < 2 ^ k) (h2 : 0 ≤ y) (h3 : y < 2 ^ k) : 0 ≤ jxor x y ∧ jxor x y < 2 ^ k := by
  unfold jxor
  have hp : (2 : Int) ^ k ≤ 2147483648 := by
    have : (2 : Nat) ^ k ≤ 2 ^ 31 := Nat.pow_le_pow_right (by decide) hk
    have e : ((2 ^ k : Nat) : Int) = (2 : Int) ^ k := by simp
    omega
  have e : ((2 ^ k : Nat) : Int) = (2 : Int) ^ k := by simp
  have h := Nat.xor_lt_two_pow (x := x.toNat) (y := y.toNat) (n := k) (by omega) (by omega)
  have e2 : (Int32.ofInt x ^^^ Int32.ofInt y).toBitVec.toNat = x.toNat ^^^ y.toNat := by
    rw [Int32.toBitVec_xor, BitVec.toNat_xor, jnI_n h0 (by omega), jnI_n h2 (by omega)]
  rw [jtoI (by rw [e2]; omega), e2]
  omega
theorem jshm0 : ∀ n : Fin 32, ((Int32.ofInt (n.val : Int) &&& 31).toBitVec.smod 32).toNat = n.val := by decide
theorem jshm {y : Int} (h0 : 0 ≤ y) (h1 : y ≤ 31) : ((Int32.ofInt y &&& 31).toBitVec.smod 32).toNat = y.toNat := by
  have := jshm0 ⟨y.toNat, by omega⟩
  simp only at this
  rw [show ((y.toNat : Nat) : Int) = y by omega] at this
  exact this
theorem jshl_e {x y : Int} {a : Nat} (h0 : 0 ≤ x) (h1 : x ≤ (a : Int)) (h2 : 0 ≤ y) (h3 : y ≤ 31) (h4 : a * 2 ^ y.toNat < 2147483648) : jshl x y = x * 2 ^ y.toNat := by
  have hpp : 0 < 2 ^ y.toNat := Nat.pow_pos (by decide)
  have ha : a ≤ a * 2 ^ y.toNat := Nat.le_mul_of_pos_right _ hpp
  have hx : x.toNat * 2 ^ y.toNat ≤ a * 2 ^ y.toNat := Nat.mul_le_mul_right _ (by omega)
  unfold jshl
  rw [jnI h0 (by omega), pk_shlN _ _ (jshm h2 h3) (by omega), nI_toInt (by omega)]
  have e : ((x.toNat : Nat) : Int) = x := by omega
  simp [e]
theorem jshl_b {x y : Int} {a a' b : Nat} (h0 : (a' : Int) ≤ x) (h1 : x ≤ (a : Int)) (h2 : 0 ≤ y) (h3 : y ≤ (b : Int)) (h4 : a * 2 ^ b < 2147483648) (h5 : b ≤ 31) : (a' : Int) ≤ jshl x y ∧ jshl x y ≤ ((a * 2 ^ b : Nat) : Int) := by
  have hp : (2 : Nat) ^ y.toNat ≤ 2 ^ b := Nat.pow_le_pow_right (by decide) (by omega)
  have hm : a * 2 ^ y.toNat ≤ a * 2 ^ b := Nat.mul_le_mul_left _ hp
  rw [jshl_e (a := a) (by omega) h1 h2 (by omega) (by omega)]
  have hpp : 0 < (2 : Nat) ^ y.toNat := Nat.pow_pos (by decide)
  have e : x * 2 ^ y.toNat = ((x.toNat * 2 ^ y.toNat : Nat) : Int) := by
    have e : ((x.toNat : Nat) : Int) = x := by omega
    simp [e]
  rw [e]
  have h6 : x.toNat * 2 ^ y.toNat ≤ a * 2 ^ y.toNat := Nat.mul_le_mul_right _ (by omega)
  have h7 : x.toNat ≤ x.toNat * 2 ^ y.toNat := Nat.le_mul_of_pos_right _ hpp
  omega
theorem jshr_b {x y : Int} (h0 : 0 ≤ x) (h1 : x < 2147483648) : 0 ≤ jshr x y ∧ jshr x y ≤ x := by
  unfold jshr
  rw [pk_shr _ _ _ rfl, j32 (by omega) h1, Int.shiftRight_eq_div_pow]
  have hpp : 0 < (2 : Nat) ^ ((Int32.ofInt y &&& 31).toBitVec.smod 32).toNat := Nat.pow_pos (by decide)
  refine ⟨Int.ediv_nonneg h0 (by omega), Int.ediv_le_self _ h0⟩
theorem jshr_e {x y : Int} (h0 : -2147483648 ≤ x) (h1 : x < 2147483648) (h2 : 0 ≤ y) (h3 : y ≤ 31) : jshr x y = x / 2 ^ y.toNat := by
  unfold jshr
  rw [pk_shr _ _ _ (jshm h2 h3), j32 h0 h1, Int.shiftRight_eq_div_pow]
  simp
theorem jusm0 : ∀ n : Fin 32, (((Int32.ofInt (n.val : Int)).toUInt32 &&& Int32.toUInt32 31).toBitVec % 32).toNat = n.val := by decide
theorem jushr_b {x y : Int} {s : Nat} (hy : y = (s : Int)) (h1 : 1 ≤ s) (h2 : s ≤ 31) : 0 ≤ jushr x y ∧ jushr x y ≤ ((2 ^ (32 - s) - 1 : Nat) : Int) := by
  subst hy
  unfold jushr
  have e := pk_ushr (Int32.ofInt x) (Int32.ofInt (s : Int)) s (jusm0 ⟨s, by omega⟩)
  have hb : (Int32.ofInt x).toBitVec.toNat < 2 ^ 32 := BitVec.isLt _
  have hd : (Int32.ofInt x).toBitVec.toNat / 2 ^ s < 2 ^ (32 - s) := by
    rw [Nat.div_lt_iff_lt_mul (Nat.pow_pos (by decide)), ← Nat.pow_add, show 32 - s + s = 32 by omega]
    exact hb
  have hl : (2 : Nat) ^ (32 - s) ≤ 2 ^ 31 := Nat.pow_le_pow_right (by decide) (by omega)
  rw [jtoI (by rw [e]; omega), e]
  omega
theorem w8G (v : Int) : ∃ w, w8 v = w ∧ -128 ≤ w ∧ w ≤ 127 := ⟨_, rfl, (jw8_in v).1, by have := (jw8_in v).2; omega⟩
theorem jtm_e {x y : Int} (h : 0 ≤ x) : x.tmod y = x % y := Int.tmod_eq_emod_of_nonneg h
section EvB
variable {ok : Nat → Nat → Nat → List AV → JH → (Option AV → JH → Prop) → Prop} {xl : Option Nat} {xs : Nat → Int} {cd : List JE} {mc ms : Nat} {Q : Option AV → JH → Prop} {K K' : List JE} {L L' S S' : List AV} {h h' : JH} {cu su pc n' : Nat} {ps : List Nat} {z x y c : Int} {a a' b b' k s : Nat}
theorem ev_dup2l {v : Int} (kk : jEv ok xl xs cd mc ms Q (K, L, (1, v) :: (1, v) :: S, h, cu, su)) : jEv ok xl xs cd mc ms Q ((pc, .dup2, n', ps, z) :: K, L, (1, v) :: S, h, cu, su) := ev_k kk (by simp [jstep, jdup2]) (Or.inl ⟨rfl, rfl⟩)
theorem jmulB (h1 : x ≤ (a : Int)) (h2 : y ≤ (b : Int)) (h3 : (a' : Int) ≤ x) (h4 : (b' : Int) ≤ y) : ((a' * b' : Nat) : Int) ≤ x * y ∧ x * y ≤ ((a * b : Nat) : Int) := by
  have e1 : x * y = ((x.toNat * y.toNat : Nat) : Int) := by
    have e : ((x.toNat : Nat) : Int) = x := by omega
    have e' : ((y.toNat : Nat) : Int) = y := by omega
    rw [Int.natCast_mul, e, e']
  rw [e1]
  have h5 : a' * b' ≤ x.toNat * y.toNat := Nat.mul_le_mul (by omega) (by omega)
  have h6 : x.toNat * y.toNat ≤ a * b := Nat.mul_le_mul (by omega) (by omega)
  omega
theorem g_imulB (h1 : x ≤ (a : Int)) (h2 : y ≤ (b : Int)) (h3 : (a' : Int) ≤ x) (h4 : (b' : Int) ≤ y) (h5 : a * b ≤ 2147483647) {lo hi : Nat} (e1 : a' * b' = lo) (e2 : a * b = hi) (kk : ∀ r, x * y = r → (lo : Int) ≤ r → r ≤ (hi : Int) → jEv ok xl xs cd mc ms Q (K, L, (0, r) :: S, h, cu, su)) : jEv ok xl xs cd mc ms Q ((pc, .imul, n', ps, z) :: K, L, (0, y) :: (0, x) :: S, h, cu, su) := by
  have hb := jmulB h1 h2 h3 h4
  refine ev_imul (jw32_id (by omega) (by omega)) (kk _ rfl (by omega) (by omega))
theorem g_lmulB (h1 : x ≤ (a : Int)) (h2 : y ≤ (b : Int)) (h3 : (a' : Int) ≤ x) (h4 : (b' : Int) ≤ y) (h5 : a * b ≤ 9223372036854775807) {lo hi : Nat} (e1 : a' * b' = lo) (e2 : a * b = hi) (kk : ∀ r, x * y = r → (lo : Int) ≤ r → r ≤ (hi : Int) → jEv ok xl xs cd mc ms Q (K, L, (1, r) :: S, h, cu, su)) : jEv ok xl xs cd mc ms Q ((pc, .lmul, n', ps, z) :: K, L, (1, y) :: (1, x) :: S, h, cu, su) := by
  have hb := jmulB h1 h2 h3 h4
  refine ev_lmul (jw64_id (by omega) (by omega)) (kk _ rfl (by omega) (by omega))
theorem g_iandB (h0 : 0 ≤ y) (h1 : y ≤ (b : Int)) (h2 : b ≤ 2147483647) (kk : ∀ r, jand x y = r → 0 ≤ r → r ≤ (b : Int) → jEv ok xl xs cd mc ms Q (K, L, (0, r) :: S, h, cu, su)) : jEv ok xl xs cd mc ms Q ((pc, .iand, n', ps, z) :: K, L, (0, y) :: (0, x) :: S, h, cu, su) :=
  have hb := jand_b x h0 (by omega)
  ev_iand rfl (kk _ rfl hb.1 (by omega))
theorem g_iandA (h0 : 0 ≤ x) (h1 : x ≤ (b : Int)) (h2 : b ≤ 2147483647) (kk : ∀ r, jand x y = r → 0 ≤ r → r ≤ (b : Int) → jEv ok xl xs cd mc ms Q (K, L, (0, r) :: S, h, cu, su)) : jEv ok xl xs cd mc ms Q ((pc, .iand, n', ps, z) :: K, L, (0, y) :: (0, x) :: S, h, cu, su) := by
  have hb := jand_b y h0 (by omega)
  rw [jand_c] at hb
  exact ev_iand rfl (kk _ rfl hb.1 (by omega))
theorem g_iorB {hi : Nat} (hk : k ≤ 31) (e : 2 ^ k = hi + 1) (h0 : 0 ≤ x) (h1 : x ≤ (hi : Int)) (h2 : 0 ≤ y) (h3 : y ≤ (hi : Int)) (kk : ∀ r, jor x y = r → 0 ≤ r → r ≤ (hi : Int) → jEv ok xl xs cd mc ms Q (K, L, (0, r) :: S, h, cu, su)) : jEv ok xl xs cd mc ms Q ((pc, .ior, n', ps, z) :: K, L, (0, y) :: (0, x) :: S, h, cu, su) := by
  have e' : (2 : Int) ^ k = hi + 1 := by
    have : ((2 ^ k : Nat) : Int) = (2 : Int) ^ k := by simp
    omega
  have hb := jor_b hk h0 (by omega) h2 (by omega)
  exact ev_ior rfl (kk _ rfl hb.1 (by omega))
theorem g_ixorB {hi : Nat} (hk : k ≤ 31) (e : 2 ^ k = hi + 1) (h0 : 0 ≤ x) (h1 : x ≤ (hi : Int)) (h2 : 0 ≤ y) (h3 : y ≤ (hi : Int)) (kk : ∀ r, jxor x y = r → 0 ≤ r → r ≤ (hi : Int) → jEv ok xl xs cd mc ms Q (K, L, (0, r) :: S, h, cu, su)) : jEv ok xl xs cd mc ms Q ((pc, .ixor, n', ps, z) :: K, L, (0, y) :: (0, x) :: S, h, cu, su) := by
  have e' : (2 : Int) ^ k = hi + 1 := by
    have : ((2 ^ k : Nat) : Int) = (2 : Int) ^ k := by simp
    omega
  have hb := jxor_b hk h0 (by omega) h2 (by omega)
  exact ev_ixor rfl (kk _ rfl hb.1 (by omega))
theorem g_ishlB {hi : Nat} (h0 : (a' : Int) ≤ x) (h1 : x ≤ (a : Int)) (h2 : 0 ≤ y) (h3 : y ≤ (b : Int)) (e : a * 2 ^ b = hi) (h4 : hi < 2147483648 ∧ b ≤ 31) (kk : ∀ r, jshl x y = r → (a' : Int) ≤ r → r ≤ (hi : Int) → jEv ok xl xs cd mc ms Q (K, L, (0, r) :: S, h, cu, su)) : jEv ok xl xs cd mc ms Q ((pc, .ishl, n', ps, z) :: K, L, (0, y) :: (0, x) :: S, h, cu, su) := by
  have hb := jshl_b h0 h1 h2 h3 (by omega) h4.2
  rw [e] at hb
  exact ev_ishl rfl (kk _ rfl hb.1 hb.2)
theorem g_ishrB (h0 : 0 ≤ x) (h1 : x ≤ (a : Int)) (h2 : a ≤ 2147483647) (kk : ∀ r, jshr x y = r → 0 ≤ r → r ≤ (a : Int) → jEv ok xl xs cd mc ms Q (K, L, (0, r) :: S, h, cu, su)) : jEv ok xl xs cd mc ms Q ((pc, .ishr, n', ps, z) :: K, L, (0, y) :: (0, x) :: S, h, cu, su) := by
  have hb := jshr_b (y := y) h0 (by omega)
  exact ev_ishr rfl (kk _ rfl hb.1 (by omega))
theorem g_iushrB {hi : Nat} (hy : y = (s : Int)) (h1 : 1 ≤ s ∧ s ≤ 31) (e : 2 ^ (32 - s) = hi + 1) (kk : ∀ r, jushr x y = r → 0 ≤ r → r ≤ (hi : Int) → jEv ok xl xs cd mc ms Q (K, L, (0, r) :: S, h, cu, su)) : jEv ok xl xs cd mc ms Q ((pc, .iushr, n', ps, z) :: K, L, (0, y) :: (0, x) :: S, h, cu, su) := by
  have hb := jushr_b (x := x) hy h1.1 h1.2
  rw [e] at hb
  exact ev_iushr rfl (kk _ rfl hb.1 (by omega))
theorem j32_in' (q : Int32) : -2147483648 ≤ q.toInt ∧ q.toInt ≤ 2147483647 := by have := j32_in q; omega
theorem j64_in' (q : Int64) : -9223372036854775808 ≤ q.toInt ∧ q.toInt ≤ 9223372036854775807 := by have := j64_in q; omega
theorem g_iandG (kk : ∀ r, jand x y = r → -2147483648 ≤ r → r ≤ 2147483647 → jEv ok xl xs cd mc ms Q (K, L, (0, r) :: S, h, cu, su)) : jEv ok xl xs cd mc ms Q ((pc, .iand, n', ps, z) :: K, L, (0, y) :: (0, x) :: S, h, cu, su) := ev_iand rfl (kk _ rfl (j32_in' _).1 (j32_in' _).2)
theorem g_iorG (kk : ∀ r, jor x y = r → -2147483648 ≤ r → r ≤ 2147483647 → jEv ok xl xs cd mc ms Q (K, L, (0, r) :: S, h, cu, su)) : jEv ok xl xs cd mc ms Q ((pc, .ior, n', ps, z) :: K, L, (0, y) :: (0, x) :: S, h, cu, su) := ev_ior rfl (kk _ rfl (j32_in' _).1 (j32_in' _).2)
theorem g_ixorG (kk : ∀ r, jxor x y = r → -2147483648 ≤ r → r ≤ 2147483647 → jEv ok xl xs cd mc ms Q (K, L, (0, r) :: S, h, cu, su)) : jEv ok xl xs cd mc ms Q ((pc, .ixor, n', ps, z) :: K, L, (0, y) :: (0, x) :: S, h, cu, su) := ev_ixor rfl (kk _ rfl (j32_in' _).1 (j32_in' _).2)
theorem g_ishlG (kk : ∀ r, jshl x y = r → -2147483648 ≤ r → r ≤ 2147483647 → jEv ok xl xs cd mc ms Q (K, L, (0, r) :: S, h, cu, su)) : jEv ok xl xs cd mc ms Q ((pc, .ishl, n', ps, z) :: K, L, (0, y) :: (0, x) :: S, h, cu, su) := ev_ishl rfl (kk _ rfl (j32_in' _).1 (j32_in' _).2)
theorem g_ishrG (kk : ∀ r, jshr x y = r → -2147483648 ≤ r → r ≤ 2147483647 → jEv ok xl xs cd mc ms Q (K, L, (0, r) :: S, h, cu, su)) : jEv ok xl xs cd mc ms Q ((pc, .ishr, n', ps, z) :: K, L, (0, y) :: (0, x) :: S, h, cu, su) := ev_ishr rfl (kk _ rfl (j32_in' _).1 (j32_in' _).2)
theorem g_iushrG (kk : ∀ r, jushr x y = r → -2147483648 ≤ r → r ≤ 2147483647 → jEv ok xl xs cd mc ms Q (K, L, (0, r) :: S, h, cu, su)) : jEv ok xl xs cd mc ms Q ((pc, .iushr, n', ps, z) :: K, L, (0, y) :: (0, x) :: S, h, cu, su) := ev_iushr rfl (kk _ rfl (j32_in' _).1 (j32_in' _).2)
theorem g_landG (kk : ∀ r, jandL x y = r → -9223372036854775808 ≤ r → r ≤ 9223372036854775807 → jEv ok xl xs cd mc ms Q (K, L, (1, r) :: S, h, cu, su)) : jEv ok xl xs cd mc ms Q ((pc, .land, n', ps, z) :: K, L, (1, y) :: (1, x) :: S, h, cu, su) := ev_land rfl (kk _ rfl (j64_in' _).1 (j64_in' _).2)
theorem g_lorG (kk : ∀ r, jorL x y = r → -9223372036854775808 ≤ r → r ≤ 9223372036854775807 → jEv ok xl xs cd mc ms Q (K, L, (1, r) :: S, h, cu, su)) : jEv ok xl xs cd mc ms Q ((pc, .lor, n', ps, z) :: K, L, (1, y) :: (1, x) :: S, h, cu, su) := ev_lor rfl (kk _ rfl (j64_in' _).1 (j64_in' _).2)
theorem g_lxorG (kk : ∀ r, jxorL x y = r → -9223372036854775808 ≤ r → r ≤ 9223372036854775807 → jEv ok xl xs cd mc ms Q (K, L, (1, r) :: S, h, cu, su)) : jEv ok xl xs cd mc ms Q ((pc, .lxor, n', ps, z) :: K, L, (1, y) :: (1, x) :: S, h, cu, su) := ev_lxor rfl (kk _ rfl (j64_in' _).1 (j64_in' _).2)
theorem g_lshlG (kk : ∀ r, jshlL x y = r → -9223372036854775808 ≤ r → r ≤ 9223372036854775807 → jEv ok xl xs cd mc ms Q (K, L, (1, r) :: S, h, cu, su)) : jEv ok xl xs cd mc ms Q ((pc, .lshl, n', ps, z) :: K, L, (0, y) :: (1, x) :: S, h, cu, su) := ev_lshl rfl (kk _ rfl (j64_in' _).1 (j64_in' _).2)
theorem g_lushrG (kk : ∀ r, jushrL x y = r → -9223372036854775808 ≤ r → r ≤ 9223372036854775807 → jEv ok xl xs cd mc ms Q (K, L, (1, r) :: S, h, cu, su)) : jEv ok xl xs cd mc ms Q ((pc, .lushr, n', ps, z) :: K, L, (0, y) :: (1, x) :: S, h, cu, su) := ev_lushr rfl (kk _ rfl (j64_in' _).1 (j64_in' _).2)
theorem g_iremP (hy : y = c) (hc : 0 < c) (hx : 0 ≤ x) (kk : ∀ r, x % c = r → 0 ≤ r → r ≤ c - 1 → r ≤ x → jEv ok xl xs cd mc ms Q (K, L, (0, r) :: S, h, cu, su)) : jEv ok xl xs cd mc ms Q ((pc, .irem, n', ps, z) :: K, L, (0, y) :: (0, x) :: S, h, cu, su) := by
  subst hy
  have h1 := Int.emod_nonneg x (show y ≠ 0 by omega)
  have h2 := Int.emod_lt_of_pos x hc
  have h3 : x % y ≤ x := by
    have := Int.mul_ediv_add_emod x y
    have h4 : 0 ≤ y * (x / y) := Int.mul_nonneg (by omega) (Int.ediv_nonneg hx (by omega))
    omega
  exact ev_irem (by omega) (jtm_e hx) (kk _ rfl h1 (by omega) h3)
theorem g_lremP (hy : y = c) (hc : 0 < c) (hx : 0 ≤ x) (kk : ∀ r, x % c = r → 0 ≤ r → r ≤ c - 1 → r ≤ x → jEv ok xl xs cd mc ms Q (K, L, (1, r) :: S, h, cu, su)) : jEv ok xl xs cd mc ms Q ((pc, .lrem, n', ps, z) :: K, L, (1, y) :: (1, x) :: S, h, cu, su) := by
  subst hy
  have h1 := Int.emod_nonneg x (show y ≠ 0 by omega)
  have h2 := Int.emod_lt_of_pos x hc
  have h3 : x % y ≤ x := by
    have := Int.mul_ediv_add_emod x y
    have h4 : 0 ≤ y * (x / y) := Int.mul_nonneg (by omega) (Int.ediv_nonneg hx (by omega))
    omega
  exact ev_lrem (by omega) (jtm_e hx) (kk _ rfl h1 (by omega) h3)
theorem g_iremQ (hc : 0 < y) (hx : 0 ≤ x) (kk : ∀ r, x % y = r → 0 ≤ r → r ≤ y - 1 → r ≤ x → jEv ok xl xs cd mc ms Q (K, L, (0, r) :: S, h, cu, su)) : jEv ok xl xs cd mc ms Q ((pc, .irem, n', ps, z) :: K, L, (0, y) :: (0, x) :: S, h, cu, su) := g_iremP rfl hc hx kk
theorem g_lremQ (hc : 0 < y) (hx : 0 ≤ x) (kk : ∀ r, x % y = r → 0 ≤ r → r ≤ y - 1 → r ≤ x → jEv ok xl xs cd mc ms Q (K, L, (1, r) :: S, h, cu, su)) : jEv ok xl xs cd mc ms Q ((pc, .lrem, n', ps, z) :: K, L, (1, y) :: (1, x) :: S, h, cu, su) := g_lremP rfl hc hx kk
theorem g_iremC (hy : y = c) (hc : 0 < c) (kk : ∀ r, x.tmod c = r → -(c - 1) ≤ r → r ≤ c - 1 → jEv ok xl xs cd mc ms Q (K, L, (0, r) :: S, h, cu, su)) : jEv ok xl xs cd mc ms Q ((pc, .irem, n', ps, z) :: K, L, (0, y) :: (0, x) :: S, h, cu, su) := by
  subst hy
  have := jtmod_abs x y (by omega)
  exact ev_irem (by omega) rfl (kk _ rfl (by omega) (by omega))
theorem g_lremC (hy : y = c) (hc : 0 < c) (kk : ∀ r, x.tmod c = r → -(c - 1) ≤ r → r ≤ c - 1 → jEv ok xl xs cd mc ms Q (K, L, (1, r) :: S, h, cu, su)) : jEv ok xl xs cd mc ms Q ((pc, .lrem, n', ps, z) :: K, L, (1, y) :: (1, x) :: S, h, cu, su) := by
  subst hy
  have := jtmod_abs x y (by omega)
  exact ev_lrem (by omega) rfl (kk _ rfl (by omega) (by omega))
theorem g_iremG (hy : y ≠ 0) (b1 : -2147483648 ≤ y) (b2 : y ≤ 2147483647) (kk : ∀ r, x.tmod y = r → -2147483648 ≤ r → r ≤ 2147483647 → jEv ok xl xs cd mc ms Q (K, L, (0, r) :: S, h, cu, su)) : jEv ok xl xs cd mc ms Q ((pc, .irem, n', ps, z) :: K, L, (0, y) :: (0, x) :: S, h, cu, su) := by
  have := jtmod_abs x y hy
  exact ev_irem hy rfl (kk _ rfl (by omega) (by omega))
theorem g_lremG (hy : y ≠ 0) (b1 : -9223372036854775808 ≤ y) (b2 : y ≤ 9223372036854775807) (kk : ∀ r, x.tmod y = r → -9223372036854775808 ≤ r → r ≤ 9223372036854775807 → jEv ok xl xs cd mc ms Q (K, L, (1, r) :: S, h, cu, su)) : jEv ok xl xs cd mc ms Q ((pc, .lrem, n', ps, z) :: K, L, (1, y) :: (1, x) :: S, h, cu, su) := by
  have := jtmod_abs x y hy
  exact ev_lrem hy rfl (kk _ rfl (by omega) (by omega))
theorem g_idivP (hy : y = c) (hc : 0 < c) (hx : 0 ≤ x) (hx2 : x ≤ 2147483647) (kk : ∀ r, x / c = r → 0 ≤ r → r ≤ x → jEv ok xl xs cd mc ms Q (K, L, (0, r) :: S, h, cu, su)) : jEv ok xl xs cd mc ms Q ((pc, .idiv, n', ps, z) :: K, L, (0, y) :: (0, x) :: S, h, cu, su) := by
  subst hy
  have h1 := Int.ediv_nonneg hx (show 0 ≤ y by omega)
  have h2 := Int.ediv_le_self y hx
  refine ev_idiv (r := x / y) (by omega) ?_ (kk _ rfl h1 h2)
  rw [Int.tdiv_eq_ediv_of_nonneg hx]
  exact jw32_id (by omega) (by omega)
theorem g_ldivP (hy : y = c) (hc : 0 < c) (hx : 0 ≤ x) (hx2 : x ≤ 9223372036854775807) (kk : ∀ r, x / c = r → 0 ≤ r → r ≤ x → jEv ok xl xs cd mc ms Q (K, L, (1, r) :: S, h, cu, su)) : jEv ok xl xs cd mc ms Q ((pc, .ldiv, n', ps, z) :: K, L, (1, y) :: (1, x) :: S, h, cu, su) := by
  subst hy
  have h1 := Int.ediv_nonneg hx (show 0 ≤ y by omega)
  have h2 := Int.ediv_le_self y hx
  refine ev_ldiv (r := x / y) (by omega) ?_ (kk _ rfl h1 h2)
  rw [Int.tdiv_eq_ediv_of_nonneg hx]
  exact jw64_id (by omega) (by omega)
theorem g_idivG (hy : y ≠ 0) (kk : ∀ r, w32 (x.tdiv y) = r → -2147483648 ≤ r → r ≤ 2147483647 → jEv ok xl xs cd mc ms Q (K, L, (0, r) :: S, h, cu, su)) : jEv ok xl xs cd mc ms Q ((pc, .idiv, n', ps, z) :: K, L, (0, y) :: (0, x) :: S, h, cu, su) :=
  have b := jw32_in (x.tdiv y)
  ev_idiv hy rfl (kk _ rfl b.1 (by omega))
theorem g_i2bG (kk : ∀ r, w8 x = r → -128 ≤ r → r ≤ 127 → jEv ok xl xs cd mc ms Q (K, L, (0, r) :: S, h, cu, su)) : jEv ok xl xs cd mc ms Q ((pc, .i2b, n', ps, z) :: K, L, (0, x) :: S, h, cu, su) :=
  have b := jw8_in x
  ev_i2b rfl (kk _ rfl b.1 (by omega))
theorem g_i2sG (kk : ∀ r, w16 x = r → -32768 ≤ r → r ≤ 32767 → jEv ok xl xs cd mc ms Q (K, L, (0, r) :: S, h, cu, su)) : jEv ok xl xs cd mc ms Q ((pc, .i2s, n', ps, z) :: K, L, (0, x) :: S, h, cu, su) :=
  have b := jw16_in x
  ev_i2s rfl (kk _ rfl b.1 (by omega))
end EvB
