/-! greatest common divisors, quotients -/
section EvD
variable {ok : Nat → Nat → Nat → List AV → JH → (Option AV → JH → Prop) → Prop} {xl : Option Nat} {xs : Nat → Int} {cd : List JE} {mc ms : Nat} {Q : Option AV → JH → Prop} {K K' : List JE} {L L' S S' : List AV} {h h' : JH} {cu su pc n' : Nat} {ps : List Nat} {z x y : Int}
theorem g_ldivM (hy : 0 < y) (hx : 0 ≤ x) (hx2 : x ≤ 9223372036854775807) (kk : ∀ r, x.tdiv y = r → 0 ≤ r → r ≤ x → jEv ok xl xs cd mc ms Q (K, L, (1, r) :: S, h, cu, su)) : jEv ok xl xs cd mc ms Q ((pc, .ldiv, n', ps, z) :: K, L, (1, y) :: (1, x) :: S, h, cu, su) := by
  have h1 : 0 ≤ x.tdiv y := by rw [Int.tdiv_eq_ediv_of_nonneg hx]; exact Int.ediv_nonneg hx (by omega)
  have h2 : x.tdiv y ≤ x := by rw [Int.tdiv_eq_ediv_of_nonneg hx]; exact Int.ediv_le_self y hx
  exact ev_ldiv (by omega) (jw64_id (by omega) (by omega)) (kk _ rfl h1 h2)
theorem g_idivM (hy : 0 < y) (hx : 0 ≤ x) (hx2 : x ≤ 2147483647) (kk : ∀ r, x.tdiv y = r → 0 ≤ r → r ≤ x → jEv ok xl xs cd mc ms Q (K, L, (0, r) :: S, h, cu, su)) : jEv ok xl xs cd mc ms Q ((pc, .idiv, n', ps, z) :: K, L, (0, y) :: (0, x) :: S, h, cu, su) := by
  have h1 : 0 ≤ x.tdiv y := by rw [Int.tdiv_eq_ediv_of_nonneg hx]; exact Int.ediv_nonneg hx (by omega)
  have h2 : x.tdiv y ≤ x := by rw [Int.tdiv_eq_ediv_of_nonneg hx]; exact Int.ediv_le_self y hx
  exact ev_idiv (by omega) (jw32_id (by omega) (by omega)) (kk _ rfl h1 h2)
theorem mul_le_div {b M r : Int} (hy : 0 < y) (e : M.tdiv y = r) (hM : 0 ≤ M) (hb : b ≤ r) : b * y ≤ M := by
  rw [Int.tdiv_eq_ediv_of_nonneg hM] at e
  have h1 : b * y ≤ r * y := Int.mul_le_mul_of_nonneg_right hb (by omega)
  have h2 : r * y ≤ M := by rw [← e]; exact Int.ediv_mul_le M (by omega)
  exact Int.le_trans h1 h2
theorem g_lmulM {M r : Int} (hy : 0 < y) (hx : 0 < x) (e : M.tdiv y = r) (hM : 0 ≤ M) (hM2 : M ≤ 9223372036854775807) (hb : x ≤ r) (kk : ∀ p, x * y = p → 1 ≤ p → p ≤ M → jEv ok xl xs cd mc ms Q (K, L, (1, p) :: S, h, cu, su)) : jEv ok xl xs cd mc ms Q ((pc, .lmul, n', ps, z) :: K, L, (1, y) :: (1, x) :: S, h, cu, su) := by
  have h1 := mul_le_div hy e hM hb
  have h2 : 0 < x * y := Int.mul_pos hx hy
  exact ev_lmul (jw64_id (by omega) (by omega)) (kk _ rfl (by omega) h1)
/-- a quotient by a common divisor -/
theorem g_ldivD {d : Int} {b s : Int} (hb : 0 < b) (hb2 : b ≤ 9223372036854775807) (hs : 0 < s) (hd : d = ((Nat.gcd b.toNat s.toNat : Nat) : Int)) (kk : ∀ r, b.tdiv d = r → 1 ≤ r → r ≤ b → jEv ok xl xs cd mc ms Q (K, L, (1, r) :: S, h, cu, su)) : jEv ok xl xs cd mc ms Q ((pc, .ldiv, n', ps, z) :: K, L, (1, d) :: (1, b) :: S, h, cu, su) := by
  have hg : 0 < Nat.gcd b.toNat s.toNat := Nat.gcd_pos_of_pos_left _ (by omega)
  have hle : Nat.gcd b.toNat s.toNat ≤ b.toNat := Nat.gcd_le_left _ (by omega)
  have h0 : 0 < d := by omega
  have h1 : 1 ≤ b.tdiv d := by
    rw [Int.tdiv_eq_ediv_of_nonneg (by omega)]
    exact (Int.le_ediv_iff_mul_le h0).mpr (by omega)
  have h2 : b.tdiv d ≤ b := by rw [Int.tdiv_eq_ediv_of_nonneg (by omega)]; exact Int.ediv_le_self d (by omega)
  exact ev_ldiv (by omega) (jw64_id (by omega) (by omega)) (kk _ rfl h1 h2)
end EvD
theorem gcd_l {h : JH} {a b : Int} : ∀ (N : Nat) (x y : Int) (j8 j9 : AV), y.natAbs < N → -9223372036854775808 ≤ x → x ≤ 9223372036854775807 → -9223372036854775808 ≤ y → y ≤ 9223372036854775807 → jEv (jOk 0) none (fun _ => 0) c243_0 0 0 (fun v h' => ∃ r : Int, v = some (1, r) ∧ r ≠ 0 ∧ -9223372036854775808 ≤ r ∧ r ≤ 9223372036854775807 ∧ (0 < x → 0 ≤ y → r = ((Nat.gcd x.toNat y.toNat : Nat) : Int)) ∧ h' = h) (c243_17, [(1, a), (9, 0), (1, b), (9, 0), (1, x), (9, 0), (1, y), (9, 0), j8, j9], [], h, 0, 0) := by
  intro N
  induction N with
  | zero => intro x y j8 j9 hN; omega
  | succ N ih =>
    intro x y j8 j9 hN x0 x1 y0 y1
    refine ev_lload rfl ?_
    refine ev_lconst ?_
    refine ev_lcmp ?_
    refine ev_ifeq f243_42 (fun c => ?_) (fun c => ?_)
    · have e := jcmpL_eq c
      have e : y = 0 := e
      subst e
      refine ev_lload rfl ?_
      refine ev_lconst ?_
      refine ev_lcmp ?_
      refine ev_ifne f243_53 (fun c2 => ?_) (fun c2 => ?_)
      · have e2 : x ≠ 0 := jcmpL_ne c2
        refine ev_lload rfl ?_
        exact ev_ret rfl (by decide) (by decide) ⟨x, rfl, e2, x0, x1, fun h1 _ => by rw [show (0 : Int).toNat = 0 from rfl, Nat.gcd_zero_right]; omega, rfl⟩
      · have e2 : x = 0 := jcmpL_neN c2
        refine ev_lconst ?_
        refine ev_goto f243_55 ?_
        exact ev_ret rfl (by decide) (by decide) ⟨1, rfl, by decide, by decide, by decide, fun h1 => by omega, rfl⟩
    · have e : y ≠ 0 := jcmpL_eqN c
      have ha := jtmod_abs x y e
      refine ev_lload rfl ?_
      refine ev_lload rfl ?_
      refine ev_lrem (r := x.tmod y) e rfl ?_
      refine ev_lstore (L' := [(1, a), (9, 0), (1, b), (9, 0), (1, x), (9, 0), (1, y), (9, 0), (1, x.tmod y), (9, 0)]) (Nat.le_of_ble_eq_true rfl) rfl ?_
      refine ev_lload rfl ?_
      refine ev_lstore (L' := [(1, a), (9, 0), (1, b), (9, 0), (1, y), (9, 0), (1, y), (9, 0), (1, x.tmod y), (9, 0)]) (Nat.le_of_ble_eq_true rfl) rfl ?_
      refine ev_lload rfl ?_
      refine ev_lstore (L' := [(1, a), (9, 0), (1, b), (9, 0), (1, y), (9, 0), (1, x.tmod y), (9, 0), (1, x.tmod y), (9, 0)]) (Nat.le_of_ble_eq_true rfl) rfl ?_
      refine ev_goto f243_17 ?_
      refine jev_mono (fun _ _ _ _ _ _ q => q) ?_ (ih y (x.tmod y) _ _ (by omega) y0 y1 (by omega) (by omega))
      rintro v h' ⟨r, e1, e2, e3, e4, e5, e6⟩
      refine ⟨r, e1, e2, e3, e4, fun hx hy => ?_, e6⟩
      have hm := jtm_e (x := x) (y := y) (by omega)
      rw [e5 (by omega) (by rw [hm]; exact Int.emod_nonneg x e), hm, Int.toNat_emod (by omega) hy, Nat.gcd_comm, ← Nat.gcd_rec, Nat.gcd_comm]
theorem s243 {G : GH} {h : JH} (g : Gd G h) {a0 : Int} (l0 : -9223372036854775808 ≤ a0) (u0 : a0 ≤ 9223372036854775807) {a1 : Int} (l1 : -9223372036854775808 ≤ a1) (u1 : a1 ≤ 9223372036854775807) : jOk 1 0 0 243 [(1, a0), (1, a1)] h (fun v h' => ∃ r : Int, v = some (1, r) ∧ r ≠ 0 ∧ -9223372036854775808 ≤ r ∧ r ≤ 9223372036854775807 ∧ (0 < a0 → 0 ≤ a1 → r = ((Nat.gcd a0.toNat a1.toNat : Nat) : Int)) ∧ Gd G h' ∧ Kp [] h h') := by
  refine ⟨by decide, by rw [ml243]; exact Nat.le_of_ble_eq_true rfl, ?_⟩
  rw [ml243, pp243]
  show jEv _ none _ c243_0 0 0 _ (c243_0, [(1, a0), (9, 0), (1, a1), (9, 0), (9, 0), (9, 0), (9, 0), (9, 0), (9, 0), (9, 0)], [], h, 0, 0)
  refine ev_lload_n rfl ?_
  refine ev_lconst ?_
  refine ev_lcmp ?_
  have fin : ∀ x : Int, -9223372036854775808 ≤ x → x ≤ 9223372036854775807 → (0 < a0 → x = a0) → jEv (jOk 0) none (fun _ => 0) c243_0 0 0 (fun v h' => ∃ r : Int, v = some (1, r) ∧ r ≠ 0 ∧ -9223372036854775808 ≤ r ∧ r ≤ 9223372036854775807 ∧ (0 < a0 → 0 ≤ a1 → r = ((Nat.gcd a0.toNat a1.toNat : Nat) : Int)) ∧ Gd G h' ∧ Kp [] h h') (c243_12, [(1, a0), (9, 0), (1, a1), (9, 0), (9, 0), (9, 0), (9, 0), (9, 0), (9, 0), (9, 0)], [(1, x)], h, 0, 0) := by
    intro x x0 x1 hx
    refine ev_lstore (L' := [(1, a0), (9, 0), (1, a1), (9, 0), (1, x), (9, 0), (9, 0), (9, 0), (9, 0), (9, 0)]) (Nat.le_of_ble_eq_true rfl) rfl ?_
    refine ev_lload_n rfl ?_
    refine ev_lstore (L' := [(1, a0), (9, 0), (1, a1), (9, 0), (1, x), (9, 0), (1, a1), (9, 0), (9, 0), (9, 0)]) (Nat.le_of_ble_eq_true rfl) rfl ?_
    refine jev_mono (fun _ _ _ _ _ _ q => q) ?_ (gcd_l (a1.natAbs + 1) x a1 _ _ (by omega) x0 x1 l1 u1)
    rintro v h' ⟨r, e1, e2, e3, e4, e5, rfl⟩
    exact ⟨r, e1, e2, e3, e4, fun p q => by rw [e5 (by rw [hx p]; exact p) q, hx p], g, Kp.rf _ _⟩
  refine ev_ifge f243_11 (fun c => ?_) (fun c => ?_)
  · refine ev_lload_n rfl ?_
    exact fin a0 l0 u0 (fun _ => rfl)
  · have cb := jcmpL_geN c
    refine ev_lload_n rfl ?_
    refine ev_lneg (r := w64 (-a0)) rfl ?_
    refine ev_goto f243_12 ?_
    have b := jw64_in (-a0)
    exact fin _ b.1 (by omega) (fun p => by omega)
