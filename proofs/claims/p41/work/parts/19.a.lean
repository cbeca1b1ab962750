abbrev gP (h : JH) (x y : Int) : Option AV → JH → Prop := fun v h' => v = some (1, ((Nat.gcd x.toNat y.toNat : Nat) : Int)) ∧ h' = h
theorem gcd_st {x y : Int} (x0 : 0 ≤ x) (y0 : 0 < y) : Nat.gcd y.toNat (x.tmod y).toNat = Nat.gcd x.toNat y.toNat := by
  rw [jtm_e x0, Int.toNat_emod x0 (by omega), Nat.gcd_comm y.toNat, ← Nat.gcd_rec, Nat.gcd_comm]
theorem cd_s {h : JH} {a b x y i : Int} {j9 j10 : AV} (x0 : 0 ≤ x) (x1 : x ≤ 9223372036854775807) (y0 : 0 ≤ y) (i0 : 0 ≤ i) (i1 : i < 200) (H : 0 < y → jEv (jOk 0) none (fun _ => 0) c224_0 0 0 (gP h y (x.tmod y)) (c224_9, [(1, a), (9, 0), (1, b), (9, 0), (1, y), (9, 0), (1, x.tmod y), (9, 0), (0, i + 1), (1, x.tmod y), (9, 0)], [], h, 0, 0)) : jEv (jOk 0) none (fun _ => 0) c224_0 0 0 (gP h x y) (c224_9, [(1, a), (9, 0), (1, b), (9, 0), (1, x), (9, 0), (1, y), (9, 0), (0, i), j9, j10], [], h, 0, 0) := by
  refine ev_iload rfl ?_
  refine ev_sipush ?_
  refine ev_icmpge f224_45 (fun c => absurd c (by omega)) (fun c => ?_)
  refine ev_lload rfl ?_
  refine ev_lconst ?_
  refine ev_lcmp ?_
  refine ev_ifeq f224_45 (fun c2 => ?_) (fun c2 => ?_)
  · have e : y = 0 := jcmpL_eq c2
    subst e
    refine ev_lload rfl ?_
    refine ev_ret rfl (by decide) (by decide) ⟨?_, rfl⟩
    rw [show (0 : Int).toNat = 0 from rfl, Nat.gcd_zero_right, show ((x.toNat : Nat) : Int) = x by omega]
  · have e : y ≠ 0 := jcmpL_eqN c2
    have yp : 0 < y := by omega
    refine ev_lload rfl ?_
    refine ev_lload rfl ?_
    refine ev_lrem (r := x.tmod y) e rfl ?_
    refine ev_lstore (L' := [(1, a), (9, 0), (1, b), (9, 0), (1, x), (9, 0), (1, y), (9, 0), (0, i), (1, x.tmod y), (9, 0)]) (Nat.le_of_ble_eq_true rfl) rfl ?_
    refine ev_lload rfl ?_
    refine ev_lstore (L' := [(1, a), (9, 0), (1, b), (9, 0), (1, y), (9, 0), (1, y), (9, 0), (0, i), (1, x.tmod y), (9, 0)]) (Nat.le_of_ble_eq_true rfl) rfl ?_
    refine ev_lload rfl ?_
    refine ev_lstore (L' := [(1, a), (9, 0), (1, b), (9, 0), (1, y), (9, 0), (1, x.tmod y), (9, 0), (0, i), (1, x.tmod y), (9, 0)]) (Nat.le_of_ble_eq_true rfl) rfl ?_
    refine ev_iinc (w := i + 1) (L' := [(1, a), (9, 0), (1, b), (9, 0), (1, y), (9, 0), (1, x.tmod y), (9, 0), (0, i + 1), (1, x.tmod y), (9, 0)]) rfl (by unfold w32; omega) rfl ?_
    refine ev_goto f224_9 ?_
    refine jev_mono (fun _ _ _ _ _ _ q => q) (fun v h' q => ?_) (H yp)
    unfold gP at q ⊢
    rw [gcd_st x0 yp] at q
    exact q
theorem cd_l {h : JH} {a b : Int} : ∀ (N : Nat) (x y i : Int) (j9 j10 : AV), 0 ≤ x → x ≤ 9223372036854775807 → 0 ≤ y → y ≤ 9223372036854775807 → y.toNat < 2 ^ N → 0 ≤ i → i + 2 * (N : Int) + 2 ≤ 200 → jEv (jOk 0) none (fun _ => 0) c224_0 0 0 (gP h x y) (c224_9, [(1, a), (9, 0), (1, b), (9, 0), (1, x), (9, 0), (1, y), (9, 0), (0, i), j9, j10], [], h, 0, 0) := by
  intro N
  induction N with
  | zero =>
    intro x y i j9 j10 x0 x1 y0 y1 hN i0 i1
    rw [Nat.pow_zero] at hN
    exact cd_s x0 x1 y0 i0 (by omega) (fun z => by omega)
  | succ N ih =>
    intro x y i j9 j10 x0 x1 y0 y1 hN i0 i1
    refine cd_s x0 x1 y0 i0 (by omega) (fun yp => ?_)
    have e1 : x.tmod y = x % y := jtm_e x0
    have r0 := Int.emod_nonneg x (show y ≠ 0 by omega)
    have r1 := Int.emod_lt_of_pos x yp
    rw [e1]
    refine cd_s (by omega) y1 r0 (by omega) (by omega) (fun rp => ?_)
    have e2 : y.tmod (x % y) = y % (x % y) := jtm_e (by omega)
    have s0 := Int.emod_nonneg y (show x % y ≠ 0 by omega)
    have s1 := Int.emod_lt_of_pos y rp
    have s2 : 2 * (y % (x % y)) < y := by
      have d := Int.emod_add_mul_ediv y (x % y)
      have k1 : 1 ≤ y / (x % y) := (Int.le_ediv_iff_mul_le rp).mpr (by omega)
      have k2 : (x % y) * 1 ≤ (x % y) * (y / (x % y)) := Int.mul_le_mul_of_nonneg_left k1 (by omega)
      omega
    rw [e2]
    rw [Nat.pow_succ] at hN
    exact ih (x % y) (y % (x % y)) (i + 1 + 1) _ _ (by omega) (by omega) (by omega) (by omega) (by omega) (by omega) (by omega)
theorem t224 {G : GH} {h : JH} (g : Gd G h) {a0 : Int} (la0 : 0 ≤ a0) (ua0 : a0 ≤ 9223372036854775807) {a1 : Int} (la1 : 1 ≤ a1) (ua1 : a1 ≤ 9223372036854775807) : jOk 1 0 0 224 [(1, a0), (1, a1)] h (fun v h' => ∃ r : Int, v = some (1, r) ∧ Gd G h' ∧ Kp [] h h' ∧ 1 ≤ r ∧ r ≤ a1 ∧ r = ((Nat.gcd a0.toNat a1.toNat : Nat) : Int)) := by
  refine ⟨by decide, by rw [ml224]; exact Nat.le_of_ble_eq_true rfl, ?_⟩
  rw [ml224, pp224]
  show jEv _ none _ c224_0 0 0 _ (c224_0, [(1, a0), (9, 0), (1, a1), (9, 0), (9, 0), (9, 0), (9, 0), (9, 0), (9, 0), (9, 0), (9, 0)], [], h, 0, 0)
  refine ev_lload_n rfl ?_
  refine ev_lstore (L' := [(1, a0), (9, 0), (1, a1), (9, 0), (1, a0), (9, 0), (9, 0), (9, 0), (9, 0), (9, 0), (9, 0)]) (Nat.le_of_ble_eq_true rfl) rfl ?_
  refine ev_lload_n rfl ?_
  refine ev_lstore (L' := [(1, a0), (9, 0), (1, a1), (9, 0), (1, a0), (9, 0), (1, a1), (9, 0), (9, 0), (9, 0), (9, 0)]) (Nat.le_of_ble_eq_true rfl) rfl ?_
  refine ev_iconst ?_
  refine ev_istore (L' := [(1, a0), (9, 0), (1, a1), (9, 0), (1, a0), (9, 0), (1, a1), (9, 0), (0, 0), (9, 0), (9, 0)]) (Nat.le_of_ble_eq_true rfl) rfl ?_
  refine jev_mono (fun _ _ _ _ _ _ q => q) (fun v h' q => ?_) (cd_l 63 a0 a1 0 _ _ la0 ua0 (by omega) ua1 (by omega) (by omega) (by omega))
  obtain ⟨q1, q2⟩ := q
  have g1 : 0 < Nat.gcd a0.toNat a1.toNat := Nat.gcd_pos_of_pos_right _ (by omega)
  have g2 : Nat.gcd a0.toNat a1.toNat ≤ a1.toNat := Nat.gcd_le_right _ (by omega)
  rw [q2]
  exact ⟨_, q1, g, Kp.rf _ _, by omega, by omega, rfl⟩
/-- a fraction's top or bottom without common factors -/
def frF (t b w : Int) : Int := (if w = 0 then t else b).tdiv ((Nat.gcd t.natAbs b.toNat : Nat) : Int)
theorem gcz_l {h : JH} {a b : Int} : ∀ (N : Nat) (x y : Int) (j8 j9 : AV), y.toNat < N → 0 ≤ x → x ≤ 9223372036854775807 → 0 ≤ y → y ≤ 9223372036854775807 → (0 < x ∨ 0 < y) → jEv (jOk 0) none (fun _ => 0) c243_0 0 0 (gP h x y) (c243_17, [(1, a), (9, 0), (1, b), (9, 0), (1, x), (9, 0), (1, y), (9, 0), j8, j9], [], h, 0, 0) := by
  intro N
  induction N with
  | zero => intro x y j8 j9 hN; omega
  | succ N ih =>
    intro x y j8 j9 hN x0 x1 y0 y1 hp
    refine ev_lload rfl ?_
    refine ev_lconst ?_
    refine ev_lcmp ?_
    refine ev_ifeq f243_42 (fun c => ?_) (fun c => ?_)
    · have e : y = 0 := jcmpL_eq c
      subst e
      refine ev_lload rfl ?_
      refine ev_lconst ?_
      refine ev_lcmp ?_
      refine ev_ifne f243_53 (fun c2 => ?_) (fun c2 => ?_)
      · refine ev_lload rfl ?_
        refine ev_ret rfl (by decide) (by decide) ⟨?_, rfl⟩
        rw [show (0 : Int).toNat = 0 from rfl, Nat.gcd_zero_right, show ((x.toNat : Nat) : Int) = x by omega]
      · have e2 : x = 0 := jcmpL_neN c2
        omega
    · have e : y ≠ 0 := jcmpL_eqN c
      have yp : 0 < y := by omega
      have e1 : x.tmod y = x % y := jtm_e x0
      have r0 := Int.emod_nonneg x e
      have r1 := Int.emod_lt_of_pos x yp
      refine ev_lload rfl ?_
      refine ev_lload rfl ?_
      refine ev_lrem (r := x.tmod y) e rfl ?_
      refine ev_lstore (L' := [(1, a), (9, 0), (1, b), (9, 0), (1, x), (9, 0), (1, y), (9, 0), (1, x.tmod y), (9, 0)]) (Nat.le_of_ble_eq_true rfl) rfl ?_
      refine ev_lload rfl ?_
      refine ev_lstore (L' := [(1, a), (9, 0), (1, b), (9, 0), (1, y), (9, 0), (1, y), (9, 0), (1, x.tmod y), (9, 0)]) (Nat.le_of_ble_eq_true rfl) rfl ?_
      refine ev_lload rfl ?_
      refine ev_lstore (L' := [(1, a), (9, 0), (1, b), (9, 0), (1, y), (9, 0), (1, x.tmod y), (9, 0), (1, x.tmod y), (9, 0)]) (Nat.le_of_ble_eq_true rfl) rfl ?_
      refine ev_goto f243_17 ?_
      refine jev_mono (fun _ _ _ _ _ _ q => q) (fun v h' q => ?_) (ih y (x.tmod y) _ _ (by omega) (by omega) y1 (by omega) (by omega) (Or.inl yp))
      unfold gP at q ⊢
      rw [gcd_st x0 yp] at q
      exact q
theorem gabs {t : Int} : ((if t < 0 then -t else t) : Int).toNat = t.natAbs := by split <;> omega
theorem t243 {G : GH} {h : JH} (g : Gd G h) {a0 : Int} (l0 : -1000000000000 ≤ a0) (u0 : a0 ≤ 1000000000000) {a1 : Int} (l1 : 1 ≤ a1) (u1 : a1 ≤ 1000000000000) : jOk 1 0 0 243 [(1, a0), (1, a1)] h (fun v h' => v = some (1, ((Nat.gcd a0.natAbs a1.toNat : Nat) : Int)) ∧ h' = h) := by
  refine ⟨by decide, by rw [ml243]; exact Nat.le_of_ble_eq_true rfl, ?_⟩
  rw [ml243, pp243]
  show jEv _ none _ c243_0 0 0 _ (c243_0, [(1, a0), (9, 0), (1, a1), (9, 0), (9, 0), (9, 0), (9, 0), (9, 0), (9, 0), (9, 0)], [], h, 0, 0)
  refine ev_lload_n rfl ?_
  refine ev_lconst ?_
  refine ev_lcmp ?_
  have fin : ∀ x : Int, 0 ≤ x → x ≤ 1000000000000 → x.toNat = a0.natAbs → jEv (jOk 0) none (fun _ => 0) c243_0 0 0 (fun v h' => v = some (1, ((Nat.gcd a0.natAbs a1.toNat : Nat) : Int)) ∧ h' = h) (c243_12, [(1, a0), (9, 0), (1, a1), (9, 0), (9, 0), (9, 0), (9, 0), (9, 0), (9, 0), (9, 0)], [(1, x)], h, 0, 0) := by
    intro x x0 x1 hx
    refine ev_lstore (L' := [(1, a0), (9, 0), (1, a1), (9, 0), (1, x), (9, 0), (9, 0), (9, 0), (9, 0), (9, 0)]) (Nat.le_of_ble_eq_true rfl) rfl ?_
    refine ev_lload_n rfl ?_
    refine ev_lstore (L' := [(1, a0), (9, 0), (1, a1), (9, 0), (1, x), (9, 0), (1, a1), (9, 0), (9, 0), (9, 0)]) (Nat.le_of_ble_eq_true rfl) rfl ?_
    refine jev_mono (fun _ _ _ _ _ _ q => q) (fun v h' q => ?_) (gcz_l (a1.toNat + 1) x a1 _ _ (by omega) x0 (by omega) (by omega) (by omega) (Or.inr (by omega)))
    rw [← hx]
    exact q
  refine ev_ifge f243_11 (fun c => ?_) (fun c => ?_)
  · have cb : 0 ≤ a0 := jcmpL_ge c
    refine ev_lload_n rfl ?_
    exact fin a0 cb u0 (by omega)
  · have cb : a0 < 0 := jcmpL_geN c
    refine ev_lload_n rfl ?_
    refine ev_lneg (r := -a0) (by unfold w64; omega) ?_
    refine ev_goto f243_12 ?_
    exact fin (-a0) (by omega) (by omega) (by omega)
theorem fr_in {t b w M : Int} (t0 : -M ≤ t) (t1 : t ≤ M) (b0 : 1 ≤ b) (b1 : b ≤ M) : -M ≤ frF t b w ∧ frF t b w ≤ M := by
  unfold frF
  have gp : 0 < Nat.gcd t.natAbs b.toNat := Nat.gcd_pos_of_pos_right _ (by omega)
  have q : -M ≤ (if w = 0 then t else b) ∧ (if w = 0 then t else b) ≤ M := by split <;> omega
  generalize (if w = 0 then t else b) = x at q ⊢
  have d := jidiv_b (x := x) (y := ((Nat.gcd t.natAbs b.toNat : Nat) : Int)) (by omega)
  rcases Int.le_total 0 x with z | z
  · have := d.1 z; omega
  · have := d.2 z; omega
abbrev frP (G : GH) (h : JH) (a0 a1 a2 : Int) : Option AV → JH → Prop := fun v h' => ∃ r : Int, v = some (1, r) ∧ Gd G h' ∧ Kp [] h h' ∧ (-1000000000000) ≤ r ∧ r ≤ 1000000000000 ∧ r = frF a0 a1 a2
theorem t244 {G : GH} {h : JH} (g : Gd G h) {a0 : Int} (la0 : (-1000000000000) ≤ a0) (ua0 : a0 ≤ 1000000000000) {a1 : Int} (la1 : 1 ≤ a1) (ua1 : a1 ≤ 1000000000000) {a2 : Int} (la2 : (-2147483648) ≤ a2) (ua2 : a2 ≤ 2147483647) : jOk 2 0 0 244 [(1, a0), (1, a1), (0, a2)] h (frP G h a0 a1 a2) := by
  refine ⟨by decide, by rw [ml244]; exact Nat.le_of_ble_eq_true rfl, ?_⟩
  rw [ml244, pp244]
  show jEv _ none _ c244_0 0 0 _ (c244_0, [(1, a0), (9, 0), (1, a1), (9, 0), (0, a2), (9, 0), (9, 0)], [], h, 0, 0)
  refine ev_lload_n rfl ?_
  refine ev_lload_n rfl ?_
  refine ev_call (jcall_s (A := [(1, a1), (1, a0)]) (S' := []) (by decide) rfl (Nat.le_of_ble_eq_true rfl)) (jOk_le (by decide) (t243 g la0 ua0 la1 ua1)) (by decide) (by decide) (fun w1 h1 q1 => ?_)
  obtain ⟨rfl, eh⟩ := q1
  rw [eh]
  have fb := fr_in (w := a2) (M := 1000000000000) la0 ua0 la1 ua1
  have gp : (0 : Int) < ((Nat.gcd a0.natAbs a1.toNat : Nat) : Int) := by
    have := Nat.gcd_pos_of_pos_right a0.natAbs (show 0 < a1.toNat by omega)
    omega
  have fe : frF a0 a1 a2 = (if a2 = 0 then a0 else a1).tdiv ((Nat.gcd a0.natAbs a1.toNat : Nat) : Int) := rfl
  generalize ((Nat.gcd a0.natAbs a1.toNat : Nat) : Int) = d at gp fe ⊢
  show jEv _ _ _ _ _ _ _ (_, _, [(1, d)], _, _, _)
  refine ev_lstore (L' := [(1, a0), (9, 0), (1, a1), (9, 0), (0, a2), (1, d), (9, 0)]) (Nat.le_of_ble_eq_true rfl) rfl ?_
  refine ev_iload rfl ?_
  refine ev_ifne f244_19 (fun c => ?_) (fun c => ?_)
  · rw [if_neg c] at fe
    refine ev_lload_n rfl ?_
    refine ev_lload rfl ?_
    refine ev_ldiv (r := a1.tdiv d) (by omega) (by rw [← fe]; exact jw64_id (by omega) (by omega)) ?_
    exact ev_ret rfl (by decide) (by decide) ⟨_, rfl, g, Kp.rf _ _, by omega, by omega, fe.symm⟩
  · rw [if_pos (by omega)] at fe
    refine ev_lload_n rfl ?_
    refine ev_lload rfl ?_
    refine ev_ldiv (r := a0.tdiv d) (by omega) (by rw [← fe]; exact jw64_id (by omega) (by omega)) ?_
    refine ev_goto f244_23 ?_
    exact ev_ret rfl (by decide) (by decide) ⟨_, rfl, g, Kp.rf _ _, by omega, by omega, fe.symm⟩
theorem t223 {G : GH} {h : JH} (g : Gd G h) {a0 : Int} (la0 : (-1000000000000) ≤ a0) (ua0 : a0 ≤ 1000000000000) {a1 : Int} (la1 : 1 ≤ a1) (ua1 : a1 ≤ 1000000000000) {a2 : Int} (la2 : (-2147483648) ≤ a2) (ua2 : a2 ≤ 2147483647) : jOk 2 0 0 223 [(1, a0), (1, a1), (0, a2)] h (frP G h a0 a1 a2) := by
  refine ⟨by decide, by rw [ml223]; exact Nat.le_of_ble_eq_true rfl, ?_⟩
  rw [ml223, pp223]
  show jEv _ none _ c223_0 0 0 _ (c223_0, [(1, a0), (9, 0), (1, a1), (9, 0), (0, a2), (9, 0), (9, 0), (9, 0), (9, 0)], [], h, 0, 0)
  have fb := fr_in (w := a2) (M := 1000000000000) la0 ua0 la1 ua1
  have fin : ∀ x : Int, 0 ≤ x → x ≤ 1000000000000 → x.toNat = a0.natAbs → jEv (jOk 1) none (fun _ => 0) c223_0 0 0 (frP G h a0 a1 a2) (c223_12, [(1, a0), (9, 0), (1, a1), (9, 0), (0, a2), (9, 0), (9, 0), (9, 0), (9, 0)], [(1, x)], h, 0, 0) := by
    intro x x0 x1 hx
    refine ev_lload_n rfl ?_
    refine ev_call (jcall_s (A := [(1, a1), (1, x)]) (S' := []) (by decide) rfl (Nat.le_of_ble_eq_true rfl)) (t224 g x0 (by omega) la1 (by omega)) (by decide) (by decide) (fun w1 h1 q1 => ?_)
    obtain ⟨d, rfl, g1, k1, d0, d1, ed⟩ := q1
    rw [hx] at ed
    have fe : frF a0 a1 a2 = (if a2 = 0 then a0 else a1).tdiv d := by rw [ed]; rfl
    show jEv _ _ _ _ _ _ _ (_, _, [(1, d)], _, _, _)
    refine ev_lstore (L' := [(1, a0), (9, 0), (1, a1), (9, 0), (0, a2), (1, d), (9, 0), (9, 0), (9, 0)]) (Nat.le_of_ble_eq_true rfl) rfl ?_
    refine ev_iload rfl ?_
    have last : ∀ p : Int, frF a0 a1 a2 = p.tdiv d → jEv (jOk 1) none (fun _ => 0) c223_0 0 0 (frP G h a0 a1 a2) (c223_28, [(1, a0), (9, 0), (1, a1), (9, 0), (0, a2), (1, d), (9, 0), (9, 0), (9, 0)], [(1, p)], h1, 0, 0) := by
      intro p ep
      refine ev_lstore (L' := [(1, a0), (9, 0), (1, a1), (9, 0), (0, a2), (1, d), (9, 0), (1, p), (9, 0)]) (Nat.le_of_ble_eq_true rfl) rfl ?_
      refine ev_lload rfl ?_
      refine ev_lconst ?_
      refine ev_lcmp ?_
      refine ev_ifgt f223_42 (fun c => ?_) (fun c => ?_)
      · refine ev_lload rfl ?_
        refine ev_lload rfl ?_
        refine ev_ldiv (r := p.tdiv d) (by omega) (by rw [← ep]; exact jw64_id (by omega) (by omega)) ?_
        exact ev_ret rfl (by decide) (by decide) ⟨_, rfl, g1, k1, by omega, by omega, ep.symm⟩
      · have cb : d ≤ 1 := jcmpL_gtN c
        have e1 : d = 1 := by omega
        subst e1
        rw [Int.tdiv_one] at ep
        refine ev_lload rfl ?_
        refine ev_goto f223_47 ?_
        exact ev_ret rfl (by decide) (by decide) ⟨_, rfl, g1, k1, by omega, by omega, ep.symm⟩
    refine ev_ifne f223_27 (fun c => ?_) (fun c => ?_)
    · rw [if_neg c] at fe
      refine ev_lload_n rfl ?_
      exact last a1 fe
    · rw [if_pos (by omega)] at fe
      refine ev_lload_n rfl ?_
      refine ev_goto f223_28 ?_
      exact last a0 fe
  refine ev_lload_n rfl ?_
  refine ev_lconst ?_
  refine ev_lcmp ?_
  refine ev_ifge f223_11 (fun c => ?_) (fun c => ?_)
  · have cb : 0 ≤ a0 := jcmpL_ge c
    refine ev_lload_n rfl ?_
    exact fin a0 cb ua0 (by omega)
  · have cb : a0 < 0 := jcmpL_geN c
    refine ev_lload_n rfl ?_
    refine ev_lneg (r := -a0) (by unfold w64; omega) ?_
    refine ev_goto f223_12 ?_
    exact fin (-a0) (by omega) (by omega) (by omega)
theorem mul_ab {x y : Int} {A B : Nat} (hx : x.natAbs ≤ A) (hy : y.natAbs ≤ B) : -((A * B : Nat) : Int) ≤ x * y ∧ x * y ≤ ((A * B : Nat) : Int) := by
  have e := Int.natAbs_mul x y
  have m := Nat.mul_le_mul hx hy
  rw [← e] at m
  omega
def Up (h h' : JH) (a : Nat) (i v : Int) : Prop := h'.2.2 a i.toNat = v ∧ ∀ j : Nat, j ≠ i.toNat → h'.2.2 a j = h.2.2 a j
theorem Up.mk2 {h h' : JH} {a : Nat} {i i' v v' : Int} (e : h' = jwr h a i.toNat v) (hi : i' = i) (hv : v' = v) : Up h h' a i' v' := by
  subst hi
  subst hv
  exact ⟨jw_eq e, fun j hj => jw_ne e (Or.inr hj)⟩
theorem Up.kp {W : List (Nat × Nat)} {h h1 h2 : JH} {a : Nat} {i v : Int} (u : Up h h1 a i v) (k : Kp W h1 h2) (c : ∀ j, inW W a j = false) : Up h h2 a i v := ⟨(k.v (c _)).trans u.1, fun j hj => (k.v (c _)).trans (u.2 j hj)⟩
theorem Up.pk {W : List (Nat × Nat)} {h h1 h2 : JH} {a : Nat} {i v : Int} (k : Kp W h h1) (c : ∀ j, inW W a j = false) (u : Up h1 h2 a i v) : Up h h2 a i v := ⟨u.1, fun j hj => (u.2 j hj).trans (k.v (c _))⟩
def Sm (h h' : JH) (a : Nat) : Prop := ∀ j : Nat, h'.2.2 a j = h.2.2 a j
def am (f : Int → Int) : Nat → Int
  | 0 => 0
  | n + 1 => if n = 0 ∨ f (am f n) < f (n : Int) then (n : Int) else am f n
theorem am_b (f : Int → Int) (n : Nat) : 0 ≤ am f n ∧ (am f n < (n : Int) ∨ am f n = 0) := by
  induction n with
  | zero => exact ⟨Int.le_refl _, Or.inr rfl⟩
  | succ n ih =>
    have e : am f (n + 1) = if n = 0 ∨ f (am f n) < f (n : Int) then (n : Int) else am f n := rfl
    rw [e]
    split <;> omega
theorem am_congr {f g : Int → Int} (n : Nat) (h : ∀ i : Int, 0 ≤ i → i < (n : Int) → f i = g i) : am f n = am g n := by
  induction n with
  | zero => rfl
  | succ n ih =>
    have e := ih (fun i a b => h i a (by omega))
    unfold am
    rcases Nat.eq_zero_or_pos n with z | z
    · rw [if_pos (Or.inl z), if_pos (Or.inl z)]
    · have b := am_b g n
      rw [e, h (am g n) b.1 (by omega), h (n : Int) (by omega) (by omega)]
theorem am_take {f : Int → Int} {x y i m v : Int} (x0 : 0 ≤ x) (H : i = am f x.toNat) (hm : x = 0 ∨ m = f i) (hv : v = f x) (ht : x = 0 ∨ m < v) (hy : y = x + 1) : x = am f y.toNat ∧ (y = 0 ∨ v = f x) := by
  refine ⟨?_, Or.inr hv⟩
  rw [hy, show (x + 1).toNat = x.toNat + 1 by omega]
  unfold am
  rw [← H, show ((x.toNat : Nat) : Int) = x by omega, if_pos (by omega)]
theorem am_keep {f : Int → Int} {x y i m v : Int} (x0 : 0 < x) (H : i = am f x.toNat) (hm : x = 0 ∨ m = f i) (hv : v = f x) (ht : v ≤ m) (hy : y = x + 1) : i = am f y.toNat ∧ (y = 0 ∨ m = f i) := by
  refine ⟨?_, Or.inr (by omega)⟩
  rw [hy, show (x + 1).toNat = x.toNat + 1 by omega]
  unfold am
  rw [← H, show ((x.toNat : Nat) : Int) = x by omega, if_neg (by omega)]
def gnF (h : JH) (c p : Nat) (s w i : Int) : Int := s * w * h.2.2 p i.toNat - 10000 * h.2.2 c i.toNat
def ehF (h : JH) (c p : Nat) (n s w : Int) : Int := am (gnF h c p s w) n.toNat
def lfF (h : JH) (c p : Nat) (n w s : Int) : Int := (100 - s) * w * h.2.2 p (ehF h c p n s w).toNat
def bsF (h : JH) (c p : Nat) (n w : Int) : Int := am (lfF h c p n w) 101
def hrF (h : JH) (c p : Nat) (n w k : Int) : Int := if 0 ≤ w ∧ w ≤ 999 ∧ -1 ≤ k ∧ k ≤ 3 then (if k = -1 then n else if n < 2 then -5 else if k = 0 then bsF h c p n w else if k = 1 then ehF h c p n (bsF h c p n w) w else frF (lfF h c p n w (bsF h c p n w)) 10000 (k - 2)) else -1
def hiG (w k n : Int) : Int := if 0 ≤ w ∧ w ≤ 999 ∧ k = -1 then 0 else n
def egG (c p n : Int) : Int := if 0 ≤ c ∧ c ≤ 99 ∧ 0 ≤ p ∧ p ≤ 100 ∧ n ≠ 4 then n + 1 else n
def EV (c p n : Int) : Prop := 0 ≤ c ∧ c ≤ 99 ∧ 0 ≤ p ∧ p ≤ 100 ∧ n ≠ 4
def EfE (h h' : JH) (c p : Nat) (a b n : Int) : Prop := (EV a b n ∧ Up h h' c n a ∧ Up h h' p n b) ∨ (¬ EV a b n ∧ Sm h h' c ∧ Sm h h' p)
theorem gn_at {W : List (Nat × Nat)} {h h1 : JH} {c p : Nat} {s w i cv pv v v2 : Int} (k : Kp W h h1) (cc : ∀ j, inW W c j = false) (cp : ∀ j, inW W p j = false) (ec : h1.2.2 c i.toNat = cv) (ep : h1.2.2 p i.toNat = pv) (e1 : s * w = v) (e2 : v * pv = v2) : gnF h c p s w i = v2 - 10000 * cv := by
  unfold gnF
  rw [← k.v (cc _), ← k.v (cp _), ec, ep, e1, e2]
theorem gn_kp {W : List (Nat × Nat)} {h h1 : JH} {c p : Nat} (k : Kp W h h1) (cc : ∀ j, inW W c j = false) (cp : ∀ j, inW W p j = false) : gnF h1 c p = gnF h c p := by
  funext s w i
  unfold gnF
  rw [k.v (cc _), k.v (cp _)]
theorem eh_kp {W : List (Nat × Nat)} {h h1 : JH} {c p : Nat} (k : Kp W h h1) (cc : ∀ j, inW W c j = false) (cp : ∀ j, inW W p j = false) : ehF h1 c p = ehF h c p := by
  funext n s w
  unfold ehF
  rw [gn_kp k cc cp]
theorem lf_kp {W : List (Nat × Nat)} {h h1 : JH} {c p : Nat} (k : Kp W h h1) (cc : ∀ j, inW W c j = false) (cp : ∀ j, inW W p j = false) : lfF h1 c p = lfF h c p := by
  funext n w s
  unfold lfF
  rw [eh_kp k cc cp, k.v (cp _)]
theorem bs_kp {W : List (Nat × Nat)} {h h1 : JH} {c p : Nat} (k : Kp W h h1) (cc : ∀ j, inW W c j = false) (cp : ∀ j, inW W p j = false) : bsF h1 c p = bsF h c p := by
  funext n w
  unfold bsF
  rw [lf_kp k cc cp]
theorem lf_at {W : List (Nat × Nat)} {h h1 : JH} {c p : Nat} {n s w x y v v2 pv e : Int} (k : Kp W h h1) (cc : ∀ j, inW W c j = false) (cp : ∀ j, inW W p j = false) (ee : e = ehF h1 c p n s w) (ep : h1.2.2 p e.toNat = pv) (e1 : x * y = v) (hx : x = 100 - s) (hy : y = w) (e2 : v * pv = v2) : lfF h c p n w s = v2 := by
  subst hx
  subst hy
  unfold lfF
  rw [← eh_kp k cc cp, ← ee, ← k.v (cp _), ep, e1, e2]
def Cc : List (Nat × Nat) := [(26, 10), (42, 54), (32, 0), (33, 0), (72, 0), (73, 0)]
def Rl (h : JH) : Prop := h.2.2 26 9 = h.2.2 42 53 ∧ ∀ j : Nat, j < 4 → h.2.2 32 j = h.2.2 72 j ∧ h.2.2 33 j = h.2.2 73 j
theorem Rl.fr {h h' : JH} (x : Rl h) (e : ∀ a i, inW Cc a i = true → h'.2.2 a i = h.2.2 a i) : Rl h' := by
  refine ⟨by rw [e 26 9 rfl, e 42 53 rfl]; exact x.1, fun j hj => ?_⟩
  rw [e 32 _ rfl, e 33 _ rfl, e 72 _ rfl, e 73 _ rfl]
  exact x.2 j hj
def dsj (C W : List (Nat × Nat)) : Bool := C.all (fun c => decide (c.1 < 83) && W.all (fun w => w.1 != c.1 || (w.2 != 0 && c.2 != 0 && w.2 != c.2)))
theorem dsj_at {C W : List (Nat × Nat)} (h : dsj C W = true) {a i : Nat} (hc : inW C a i = true) : a < 83 ∧ inW W a i = false := by
  unfold inW at hc
  obtain ⟨c, hm, hq⟩ := List.any_eq_true.mp hc
  have h1 := List.all_eq_true.mp h c hm
  rw [Bool.and_eq_true, decide_eq_true_eq] at h1
  simp only [Bool.or_eq_true, Bool.and_eq_true, beq_iff_eq, decide_eq_true_eq] at hq
  have ha : a < 83 := by omega
  refine ⟨ha, ?_⟩
  unfold inW
  rw [List.any_eq_false]
  intro w hw hx
  have h2 := List.all_eq_true.mp h1.2 w hw
  simp only [Bool.or_eq_true, Bool.and_eq_true, bne_iff_ne] at h2
  simp only [Bool.or_eq_true, Bool.and_eq_true, beq_iff_eq, decide_eq_true_eq] at hx
  omega
theorem Rl.kp {W : List (Nat × Nat)} {h h' : JH} (x : Rl h) (k : Kp W h h') (hd : dsj Cc W = true) : Rl h' := x.fr (fun a i hc => k.v (dsj_at hd hc).2)
theorem Rl.kx {W : List (Nat × Nat)} {h h' : JH} (x : Rl h) (k : Kx W h h') (hd : dsj Cc W = true) (h83 : 83 ≤ h.1) : Rl h' := x.fr (fun a i hc => k.2.2 a i (Nat.lt_of_lt_of_le (dsj_at hd hc).1 h83) (dsj_at hd hc).2)
theorem Rl.eff {h h1 h2 : JH} {a b n : Int} (x : Rl h) (k1 : Kp [(26, 10), (32, 0), (33, 0)] h h1) (k2 : Kp [(42, 54), (72, 0), (73, 0)] h1 h2) (c1 : h1.2.2 26 9 = egG a b n) (c2 : h2.2.2 42 53 = egG a b n) (f1 : EfE h h1 32 33 a b n) (f2 : EfE h1 h2 72 73 a b n) : Rl h2 := by
  refine ⟨by rw [k2.v rfl, c1, c2], fun j hj => ?_⟩
  rw [k2.v (a := 32) rfl, k2.v (a := 33) rfl]
  have e2 : ∀ j, h1.2.2 72 j = h.2.2 72 j := fun j => k1.v rfl
  have e3 : ∀ j, h1.2.2 73 j = h.2.2 73 j := fun j => k1.v rfl
  rcases f1 with ⟨t1, u1, w1⟩ | ⟨n1, u1, w1⟩
  · rcases f2 with ⟨_, u2, w2⟩ | ⟨n2, _⟩
    · rcases Decidable.em (j = n.toNat) with z | z
      · rw [z, u1.1, w1.1, u2.1, w2.1]; exact ⟨rfl, rfl⟩
      · rw [u1.2 j z, w1.2 j z, u2.2 j z, w2.2 j z, e2, e3]; exact x.2 j hj
    · exact absurd t1 n2
  · rcases f2 with ⟨t2, _⟩ | ⟨_, u2, w2⟩
    · exact absurd t2 n1
    · rw [u1, w1, u2, w2, e2, e3]; exact x.2 j hj
theorem Rl.gn {h : JH} (x : Rl h) (s w i : Int) (i0 : 0 ≤ i) (i4 : i < 4) : gnF h 32 33 s w i = gnF h 72 73 s w i := by
  unfold gnF
  obtain ⟨a, b⟩ := x.2 i.toNat (by omega)
  rw [a, b]
theorem Rl.eh {h : JH} (x : Rl h) {n : Int} (n4 : n ≤ 4) (s w : Int) : ehF h 32 33 n s w = ehF h 72 73 n s w := by
  unfold ehF
  exact am_congr _ (fun i a b => x.gn s w i a (by omega))
theorem Rl.lf {h : JH} (x : Rl h) {n : Int} (n4 : n ≤ 4) (w s : Int) : lfF h 32 33 n w s = lfF h 72 73 n w s := by
  unfold lfF
  rw [x.eh n4]
  have b := am_b (gnF h 72 73 s w) n.toNat
  have e : 0 ≤ ehF h 72 73 n s w ∧ ehF h 72 73 n s w < 4 := by
    unfold ehF
    omega
  rw [(x.2 (ehF h 72 73 n s w).toNat (by omega)).2]
theorem Rl.hr {h : JH} (x : Rl h) {n : Int} (n4 : n ≤ 4) (w k : Int) : hrF h 32 33 n w k = hrF h 72 73 n w k := by
  have e1 : lfF h 32 33 n w = lfF h 72 73 n w := funext (fun s => x.lf n4 w s)
  have e2 : bsF h 32 33 n w = bsF h 72 73 n w := by unfold bsF; rw [e1]
  unfold hrF
  rw [e2, e1, x.eh n4]
theorem Rl.hired {h h1 h2 : JH} {n w k r1 r2 : Int} (x : Rl h) (n4 : n ≤ 4) (k1 : Kp [(26, 10)] h h1) (k2 : Kp [(42, 54)] h1 h2) (c1 : h1.2.2 26 9 = hiG w k n) (c2 : h2.2.2 42 53 = hiG w k n) (f1 : r1 = hrF h 32 33 n w k) (f2 : r2 = hrF h1 72 73 n w k) : r1 = r2 ∧ Rl h2 := by
  have q : hrF h1 72 73 n w k = hrF h 72 73 n w k := by
    unfold hrF
    rw [bs_kp k1 (fun _ => rfl) (fun _ => rfl), lf_kp k1 (fun _ => rfl) (fun _ => rfl), eh_kp k1 (fun _ => rfl) (fun _ => rfl)]
  refine ⟨by rw [f1, f2, q, x.hr n4], by rw [k2.v rfl, c1, c2], fun j hj => ?_⟩
  rw [k2.v (a := 32) rfl, k2.v (a := 33) rfl, k2.v (a := 72) rfl, k2.v (a := 73) rfl, k1.v (a := 32) rfl, k1.v (a := 33) rfl, k1.v (a := 72) rfl, k1.v (a := 73) rfl]
  exact x.2 j hj
set_option maxHeartbeats 4000000 in
theorem t204 {G : GH} {h : JH} (g : Gd G h) {a1 : Int} (la1 : (-2147483648) ≤ a1) (ua1 : a1 ≤ 2147483647) {a2 : Int} (la2 : (-2147483648) ≤ a2) (ua2 : a2 ≤ 2147483647) {w0 : Int} (ew0 : h.2.2 26 9 = w0) (lw0 : 0 ≤ w0) (uw0 : w0 ≤ 4) : jOk 2 0 0 204 [(2, 0), (0, a1), (0, a2)] h (fun v h' => ∃ r : Int, v = some (0, r) ∧ Gd G h' ∧ Kp [(26, 10), (32, 0), (33, 0)] h h' ∧ (-3) ≤ r ∧ r ≤ 4 ∧ h'.2.2 26 9 = egG a1 a2 w0 ∧ EfE h h' 32 33 a1 a2 w0) := by
  refine ⟨by decide, by rw [ml204]; exact Nat.le_of_ble_eq_true rfl, ?_⟩
  rw [ml204, pp204]
  show jEv _ none _ c204_0 0 0 _ (c204_0, [(2, 0), (0, a1), (0, a2)], [], h, 0, 0)
  have k0 := Kp.rf [(26, 10), (32, 0), (33, 0)] h
  refine ev_iload_n rfl ?_
  refine ev_iflt f204_20 (fun c75118 => ?_) (fun c75118 => ?_)
  · refine ev_iconst ?_
    refine ev_goto f204_33 ?_
    exact ev_ret rfl (by decide) (by decide) ⟨_, rfl, g, k0, by omega, by omega, ((ew0)).trans (by unfold egG; (repeat' split) <;> omega), Or.inr ⟨by unfold EV; omega, fun _ => rfl, fun _ => rfl⟩⟩
  · refine ev_iload_n rfl ?_
    refine ev_bipush ?_
    refine ev_icmpgt f204_20 (fun c75119 => ?_) (fun c75119 => ?_)
    · refine ev_iconst ?_
      refine ev_goto f204_33 ?_
      exact ev_ret rfl (by decide) (by decide) ⟨_, rfl, g, k0, by omega, by omega, ((ew0)).trans (by unfold egG; (repeat' split) <;> omega), Or.inr ⟨by unfold EV; omega, fun _ => rfl, fun _ => rfl⟩⟩
    · refine ev_iload_n rfl ?_
      refine ev_iflt f204_20 (fun c75120 => ?_) (fun c75120 => ?_)
      · refine ev_iconst ?_
        refine ev_goto f204_33 ?_
        exact ev_ret rfl (by decide) (by decide) ⟨_, rfl, g, k0, by omega, by omega, ((ew0)).trans (by unfold egG; (repeat' split) <;> omega), Or.inr ⟨by unfold EV; omega, fun _ => rfl, fun _ => rfl⟩⟩
      · refine ev_iload_n rfl ?_
        refine ev_bipush ?_
        refine ev_icmple f204_24 (fun c75121 => ?_) (fun c75121 => ?_)
        · refine ev_aload_n rfl ?_
          refine g_getp (r := 0) (c := 26) g ad0 (by decide) (by decide) rf0_11 ft11_11 ?_
          refine ev_iload_n rfl ?_
          refine ev_iload_n rfl ?_
          refine ev_in (d := 0) (a := 0) (b := 0) (cd' := c129_0) (m := 3) (L0 := [(2, 26), (0, a1), (0, a2)]) (jcall_v (A := [(0, a2), (0, a1)]) (S' := []) (r := 26) rfl (g.lt ad26) (g.tg ad26) (Nat.le_of_ble_eq_true rfl)) (by decide) ml129 pp129 (Nat.le_of_ble_eq_true rfl) rfl (by decide) (by decide) ?_
          refine ev_aload_n rfl ?_
          refine g_getv (r := 26) (v := w0) g ad26 (by decide) ft9_9 (ew0) ?_
          refine ev_iconst ?_
          refine ev_icmplt f129_11 (fun c75122 => ?_) (fun c75122 => ?_)
          · refine ev_aload_n rfl ?_
            refine g_getp (r := 26) (c := 32) g ad26 (by decide) (by decide) rf26_10 ft9_10 ?_
            refine ev_aload_n rfl ?_
            refine g_getv (r := 26) (v := w0) g ad26 (by decide) ft9_9 (ew0) ?_
            refine ev_iload_n rfl ?_
            refine g_iast g ad32 rt32 (fun _ => rfl) (by omega) (by omega) (by omega) (by omega) (fun h75123 e75123 g75123 => ?_)
            have k75123 := k0.wr e75123 rfl
            refine ev_aload_n rfl ?_
            refine g_getp (r := 26) (c := 33) g75123 ad26 (by decide) (by decide) rf26_11 ft9_11 ?_
            refine ev_aload_n rfl ?_
            refine g_getv (r := 26) (v := w0) g75123 ad26 (by decide) ft9_9 (((jw_ne e75123 (Or.inl (by decide))).trans ew0)) ?_
            refine ev_iload_n rfl ?_
            refine g_iast g75123 ad33 rt33 (fun _ => rfl) (by omega) (by omega) (by omega) (by omega) (fun h75124 e75124 g75124 => ?_)
            have k75124 := k75123.wr e75124 rfl
            refine ev_aload_n rfl ?_
            refine ev_dup (by decide) ?_
            refine g_getv (r := 26) (v := w0) g75124 ad26 (by decide) ft9_9 (((jw_ne e75124 (Or.inl (by decide))).trans ((jw_ne e75123 (Or.inl (by decide))).trans ew0))) ?_
            refine ev_iconst ?_
            refine ev_iadd (r := (w0 + 1)) (by unfold w32; omega) ?_
            refine g_putf (r := 26) g75124 ad26 (by decide) ft9_9 (by decide) (fun e => absurd e nz9_9) rf26_9 (by decide) (by omega) (by omega) (fun h75125 e75125 g75125 => ?_)
            have k75125 := k75124.wr e75125 rfl
            refine ev_aload_n rfl ?_
            refine g_getv (r := 26) (v := (w0 + 1)) g75125 ad26 (by decide) ft9_9 ((jw_eq e75125)) ?_
            refine ev_ret rfl (by decide) (by decide) ?_
            show jEv _ _ _ _ _ _ _ (_, [(2, 0), (0, a1), (0, a2)], [(0, (w0 + 1))], _, _, _)
            exact ev_ret rfl (by decide) (by decide) ⟨_, rfl, g75125, k75125, by omega, by omega, (((jw_eq e75125))).trans (by unfold egG; (repeat' split) <;> omega), Or.inl ⟨by unfold EV; omega, (Up.kp (Up.kp (Up.mk2 (i := w0) (i' := w0) (v' := a1) e75123 (by omega) (by omega)) ((Kp.rf [(33, 0)] _).wr e75124 rfl) (fun _ => rfl)) ((Kp.rf [(26, 0)] _).wr e75125 rfl) (fun _ => rfl)), (Up.kp (Up.pk ((Kp.rf [(32, 0)] _).wr e75123 rfl) (fun _ => rfl) (Up.mk2 (i := w0) (i' := w0) (v' := a2) e75124 (by omega) (by omega))) ((Kp.rf [(26, 0)] _).wr e75125 rfl) (fun _ => rfl))⟩⟩
          · refine ev_bipush ?_
            refine ev_ret rfl (by decide) (by decide) ?_
            show jEv _ _ _ _ _ _ _ (_, [(2, 0), (0, a1), (0, a2)], [(0, (-3))], _, _, _)
            exact ev_ret rfl (by decide) (by decide) ⟨_, rfl, g, k0, by omega, by omega, ((ew0)).trans (by unfold egG; (repeat' split) <;> omega), Or.inr ⟨by unfold EV; omega, fun _ => rfl, fun _ => rfl⟩⟩
        · refine ev_iconst ?_
          refine ev_goto f204_33 ?_
          exact ev_ret rfl (by decide) (by decide) ⟨_, rfl, g, k0, by omega, by omega, ((ew0)).trans (by unfold egG; (repeat' split) <;> omega), Or.inr ⟨by unfold EV; omega, fun _ => rfl, fun _ => rfl⟩⟩
set_option maxHeartbeats 4000000 in
theorem t347 {G : GH} {h : JH} (g : Gd G h) {a1 : Int} (la1 : (-2147483648) ≤ a1) (ua1 : a1 ≤ 2147483647) {a2 : Int} (la2 : (-2147483648) ≤ a2) (ua2 : a2 ≤ 2147483647) {w0 : Int} (ew0 : h.2.2 42 53 = w0) (lw0 : 0 ≤ w0) (uw0 : w0 ≤ 4) : jOk 2 0 0 347 [(2, 42), (0, a1), (0, a2)] h (fun v h' => ∃ r : Int, v = some (0, r) ∧ Gd G h' ∧ Kp [(42, 54), (72, 0), (73, 0)] h h' ∧ (-3) ≤ r ∧ r ≤ 4 ∧ h'.2.2 42 53 = egG a1 a2 w0 ∧ EfE h h' 72 73 a1 a2 w0) := by
  refine ⟨by decide, by rw [ml347]; exact Nat.le_of_ble_eq_true rfl, ?_⟩
  rw [ml347, pp347]
  show jEv _ none _ c347_0 0 0 _ (c347_0, [(2, 42), (0, a1), (0, a2)], [], h, 0, 0)
  have k0 := Kp.rf [(42, 54), (72, 0), (73, 0)] h
  refine ev_iload_n rfl ?_
  refine ev_iconst ?_
  refine ev_bipush ?_
  refine ev_in (d := 0) (a := 0) (b := 0) (cd' := c242_0) (m := 3) (L0 := [(0, a1), (0, 0), (0, 99)]) (jcall_s (A := [(0, 99), (0, 0), (0, a1)]) (S' := []) (by decide) rfl (Nat.le_of_ble_eq_true rfl)) (by decide) ml242 pp242 (Nat.le_of_ble_eq_true rfl) rfl (by decide) (by decide) ?_
  refine ev_iload_n rfl ?_
  refine ev_iload_n rfl ?_
  refine ev_icmplt f242_14 (fun c75154 => ?_) (fun c75154 => ?_)
  · refine ev_iconst ?_
    refine ev_ret rfl (by decide) (by decide) ?_
    show jEv _ _ _ _ _ _ _ (_, [(2, 42), (0, a1), (0, a2)], [(0, 0)], _, _, _)
    refine ev_ifeq f347_20 (fun c75155 => ?_) (fun c75155 => absurd c75155 (by omega))
    refine ev_iconst ?_
    exact ev_ret rfl (by decide) (by decide) ⟨_, rfl, g, k0, by omega, by omega, ((ew0)).trans (by unfold egG; (repeat' split) <;> omega), Or.inr ⟨by unfold EV; omega, fun _ => rfl, fun _ => rfl⟩⟩
  · refine ev_iload_n rfl ?_
    refine ev_iload_n rfl ?_
    refine ev_icmpgt f242_14 (fun c75156 => ?_) (fun c75156 => ?_)
    · refine ev_iconst ?_
      refine ev_ret rfl (by decide) (by decide) ?_
      show jEv _ _ _ _ _ _ _ (_, [(2, 42), (0, a1), (0, a2)], [(0, 0)], _, _, _)
      refine ev_ifeq f347_20 (fun c75157 => ?_) (fun c75157 => absurd c75157 (by omega))
      refine ev_iconst ?_
      exact ev_ret rfl (by decide) (by decide) ⟨_, rfl, g, k0, by omega, by omega, ((ew0)).trans (by unfold egG; (repeat' split) <;> omega), Or.inr ⟨by unfold EV; omega, fun _ => rfl, fun _ => rfl⟩⟩
    · refine ev_iconst ?_
      refine ev_goto f242_15 ?_
      refine ev_ret rfl (by decide) (by decide) ?_
      show jEv _ _ _ _ _ _ _ (_, [(2, 42), (0, a1), (0, a2)], [(0, 1)], _, _, _)
      refine ev_ifeq f347_20 (fun c75158 => absurd c75158 (by omega)) (fun c75158 => ?_)
      refine ev_iload_n rfl ?_
      refine ev_iconst ?_
      refine ev_bipush ?_
      refine ev_in (d := 0) (a := 0) (b := 0) (cd' := c242_0) (m := 3) (L0 := [(0, a2), (0, 0), (0, 100)]) (jcall_s (A := [(0, 100), (0, 0), (0, a2)]) (S' := []) (by decide) rfl (Nat.le_of_ble_eq_true rfl)) (by decide) ml242 pp242 (Nat.le_of_ble_eq_true rfl) rfl (by decide) (by decide) ?_
      refine ev_iload_n rfl ?_
      refine ev_iload_n rfl ?_
      refine ev_icmplt f242_14 (fun c75159 => ?_) (fun c75159 => ?_)
      · refine ev_iconst ?_
        refine ev_ret rfl (by decide) (by decide) ?_
        show jEv _ _ _ _ _ _ _ (_, [(2, 42), (0, a1), (0, a2)], [(0, 0)], _, _, _)
        refine ev_ifne f347_22 (fun c75160 => absurd c75160 (by omega)) (fun c75160 => ?_)
        refine ev_iconst ?_
        exact ev_ret rfl (by decide) (by decide) ⟨_, rfl, g, k0, by omega, by omega, ((ew0)).trans (by unfold egG; (repeat' split) <;> omega), Or.inr ⟨by unfold EV; omega, fun _ => rfl, fun _ => rfl⟩⟩
      · refine ev_iload_n rfl ?_
        refine ev_iload_n rfl ?_
        refine ev_icmpgt f242_14 (fun c75161 => ?_) (fun c75161 => ?_)
        · refine ev_iconst ?_
          refine ev_ret rfl (by decide) (by decide) ?_
          show jEv _ _ _ _ _ _ _ (_, [(2, 42), (0, a1), (0, a2)], [(0, 0)], _, _, _)
          refine ev_ifne f347_22 (fun c75162 => absurd c75162 (by omega)) (fun c75162 => ?_)
          refine ev_iconst ?_
          exact ev_ret rfl (by decide) (by decide) ⟨_, rfl, g, k0, by omega, by omega, ((ew0)).trans (by unfold egG; (repeat' split) <;> omega), Or.inr ⟨by unfold EV; omega, fun _ => rfl, fun _ => rfl⟩⟩
        · refine ev_iconst ?_
          refine ev_goto f242_15 ?_
          refine ev_ret rfl (by decide) (by decide) ?_
          show jEv _ _ _ _ _ _ _ (_, [(2, 42), (0, a1), (0, a2)], [(0, 1)], _, _, _)
          refine ev_ifne f347_22 (fun c75163 => ?_) (fun c75163 => absurd c75163 (by omega))
          refine ev_aload_n rfl ?_
          refine g_getv (r := 42) (v := w0) g ad42 (by decide) ft12_53 (ew0) ?_
          refine ev_iconst ?_
          refine ev_icmpne f347_33 (fun c75164 => ?_) (fun c75164 => ?_)
          · refine ev_aload_n rfl ?_
            refine g_getp (r := 42) (c := 72) g ad42 (by decide) (by decide) rf42_54 ft12_54 ?_
            refine ev_aload_n rfl ?_
            refine g_getv (r := 42) (v := w0) g ad42 (by decide) ft12_53 (ew0) ?_
            refine ev_iload_n rfl ?_
            refine g_iast g ad72 rt72 (fun _ => rfl) (by omega) (by omega) (by omega) (by omega) (fun h75165 e75165 g75165 => ?_)
            have k75165 := k0.wr e75165 rfl
            refine ev_aload_n rfl ?_
            refine g_getp (r := 42) (c := 73) g75165 ad42 (by decide) (by decide) rf42_55 ft12_55 ?_
            refine ev_aload_n rfl ?_
            refine g_getv (r := 42) (v := w0) g75165 ad42 (by decide) ft12_53 (((jw_ne e75165 (Or.inl (by decide))).trans ew0)) ?_
            refine ev_iload_n rfl ?_
            refine g_iast g75165 ad73 rt73 (fun _ => rfl) (by omega) (by omega) (by omega) (by omega) (fun h75166 e75166 g75166 => ?_)
            have k75166 := k75165.wr e75166 rfl
            refine ev_aload_n rfl ?_
            refine ev_dup (by decide) ?_
            refine g_getv (r := 42) (v := w0) g75166 ad42 (by decide) ft12_53 (((jw_ne e75166 (Or.inl (by decide))).trans ((jw_ne e75165 (Or.inl (by decide))).trans ew0))) ?_
            refine ev_iconst ?_
            refine ev_iadd (r := (w0 + 1)) (by unfold w32; omega) ?_
            refine g_putf (r := 42) g75166 ad42 (by decide) ft12_53 (by decide) (fun e => absurd e nz12_53) rf42_53 (by decide) (by omega) (by omega) (fun h75167 e75167 g75167 => ?_)
            have k75167 := k75166.wr e75167 rfl
            refine ev_aload_n rfl ?_
            refine g_getv (r := 42) (v := (w0 + 1)) g75167 ad42 (by decide) ft12_53 ((jw_eq e75167)) ?_
            exact ev_ret rfl (by decide) (by decide) ⟨_, rfl, g75167, k75167, by omega, by omega, (((jw_eq e75167))).trans (by unfold egG; (repeat' split) <;> omega), Or.inl ⟨by unfold EV; omega, (Up.kp (Up.kp (Up.mk2 (i := w0) (i' := w0) (v' := a1) e75165 (by omega) (by omega)) ((Kp.rf [(73, 0)] _).wr e75166 rfl) (fun _ => rfl)) ((Kp.rf [(42, 0)] _).wr e75167 rfl) (fun _ => rfl)), (Up.kp (Up.pk ((Kp.rf [(72, 0)] _).wr e75165 rfl) (fun _ => rfl) (Up.mk2 (i := w0) (i' := w0) (v' := a2) e75166 (by omega) (by omega))) ((Kp.rf [(42, 0)] _).wr e75167 rfl) (fun _ => rfl))⟩⟩
          · refine ev_bipush ?_
            exact ev_ret rfl (by decide) (by decide) ⟨_, rfl, g, k0, by omega, by omega, ((ew0)).trans (by unfold egG; (repeat' split) <;> omega), Or.inr ⟨by unfold EV; omega, fun _ => rfl, fun _ => rfl⟩⟩
set_option maxHeartbeats 4000000 in
theorem t131_l {G : GH} {h : JH} {a1 : Int} (la1 : 0 ≤ a1) (ua1 : a1 ≤ 999) {a2 : Int} (la2 : 0 ≤ a2) (ua2 : a2 ≤ 100) {w0 : Int} (ew0 : h.2.2 26 9 = w0) (lw0 : 0 ≤ w0) (uw0 : w0 ≤ 4) : ∀ N : Nat, (∀ (h1 : JH) (x3 x4 x5 : Int) (j6 : AV), Gd G h1 → Kp [] h h1 → 0 ≤ a1 → a1 ≤ 999 → 0 ≤ a2 → a2 ≤ 100 → 0 ≤ x3 → x3 ≤ 3 → (-990000) ≤ x4 → x4 ≤ 9990000 → 0 ≤ x5 → x5 ≤ 4 → ((-w0) + x5) ≤ 0 → x3 ≤ 3 → ((-x3)) ≤ 0 → x3 = am (gnF h 32 33 a2 a1) (x5).toNat → (x5 = 0 ∨ x4 = (gnF h 32 33 a2 a1) x3) → ((-x5) + 4) < N → jEv (jOk 0) none (fun _ => 0) c131_0 0 0 (fun v h' => ∃ r : Int, v = some (0, r) ∧ Gd G h' ∧ Kp [] h h' ∧ 0 ≤ r ∧ r ≤ 3 ∧ r = ehF h 32 33 w0 a2 a1) (c131_8, [(2, 26), (0, a1), (0, a2), (0, x3), (0, x4), (0, x5), j6], [], h1, 0, 0)) := by
  intro N
  induction N with
  | zero => exact fun h1 x3 x4 x5 j6 g1 k1 b0 b1 b2 b3 b4 b5 b6 b7 b8 b9 b10 b11 b12 b13 b14 hm => absurd hm (by omega)
  | succ N ih =>
    show _
    intro h1 x3 x4 x5 j6 g1 k1 b0 b1 b2 b3 b4 b5 b6 b7 b8 b9 b10 b11 b12 H0 H1 hm
    refine ev_iload rfl ?_
    refine ev_aload_n rfl ?_
    refine g_getv (r := 26) (v := w0) g1 ad26 (by decide) ft9_9 (((k1.v (by decide)).trans ew0)) ?_
    refine ev_icmpge f131_67 (fun c75209 => ?_) (fun c75209 => ?_)
    · refine ev_iload_n rfl ?_
      exact ev_ret rfl (by decide) (by decide) ⟨_, rfl, g1, k1, by omega, by omega, H0.trans (by unfold ehF; rw [show (x5).toNat = (w0).toNat by omega])⟩
    · refine ev_iload_n rfl ?_
      refine ev_iload_n rfl ?_
      refine g_imulB (a := 100) (b := 999) (a' := 0) (b' := 0) (by omega) (by omega) (by omega) (by omega) (by decide) (lo := 0) (hi := 99900) (by decide) (by decide) (fun v75210 ev75210 lv75210 uv75210 => ?_)
      refine ev_aload_n rfl ?_
      refine g_getp (r := 26) (c := 33) g1 ad26 (by decide) (by decide) rf26_11 ft9_11 ?_
      refine ev_iload rfl ?_
      refine g_iald g1 ad33 rt33 (by omega) (by omega) (fun v75211 ev75211 lv75211 uv75211 => ?_)
      refine g_imulB (a := 99900) (b := 100) (a' := 0) (b' := 0) (by omega) (by omega) (by omega) (by omega) (by decide) (lo := 0) (hi := 9990000) (by decide) (by decide) (fun v75212 ev75212 lv75212 uv75212 => ?_)
      refine ev_sipush ?_
      refine ev_aload_n rfl ?_
      refine g_getp (r := 26) (c := 32) g1 ad26 (by decide) (by decide) rf26_10 ft9_10 ?_
      refine ev_iload rfl ?_
      refine g_iald g1 ad32 rt32 (by omega) (by omega) (fun v75213 ev75213 lv75213 uv75213 => ?_)
      refine ev_imul (r := (10000 * v75213)) (by unfold w32; omega) ?_
      refine ev_isub (r := (v75212 + (-10000) * v75213)) (by unfold w32; omega) ?_
      refine ev_istore (L' := [(2, 26), (0, a1), (0, a2), (0, x3), (0, x4), (0, x5), (0, (v75212 + (-10000) * v75213))]) (Nat.le_of_ble_eq_true rfl) rfl ?_
      refine ev_iload rfl ?_
      refine ev_ifeq f131_54 (fun c75214 => ?_) (fun c75214 => ?_)
      · refine ev_iload rfl ?_
        refine ev_istore (L' := [(2, 26), (0, a1), (0, a2), (0, x3), (0, (v75212 + (-10000) * v75213)), (0, x5), (0, (v75212 + (-10000) * v75213))]) (Nat.le_of_ble_eq_true rfl) rfl ?_
        refine ev_iload rfl ?_
        refine ev_istore_n (L' := [(2, 26), (0, a1), (0, a2), (0, x5), (0, (v75212 + (-10000) * v75213)), (0, x5), (0, (v75212 + (-10000) * v75213))]) (Nat.le_of_ble_eq_true rfl) rfl ?_
        refine ev_iinc (w := (x5 + 1)) (L' := [(2, 26), (0, a1), (0, a2), (0, x5), (0, (v75212 + (-10000) * v75213)), (0, (x5 + 1)), (0, (v75212 + (-10000) * v75213))]) rfl (by unfold w32; omega) rfl ?_
        refine ev_goto f131_8 ?_
        exact ih _ _ _ _ _ g1 k1 (by omega) (by omega) (by omega) (by omega) (by omega) (by omega) (by omega) (by omega) (by omega) (by omega) (by omega) (by omega) (by omega) (am_take (f := (gnF h 32 33 a2 a1)) (x := x5) (v := (v75212 + (-10000) * v75213)) (by omega) H0 H1 (by rw [(gn_at (s := a2) (w := a1) (i := x5) k1 (fun _ => rfl) (fun _ => rfl) ev75213 ev75211 ev75210 ev75212)]; omega) (by omega) (by omega)).1 (am_take (f := (gnF h 32 33 a2 a1)) (x := x5) (v := (v75212 + (-10000) * v75213)) (by omega) H0 H1 (by rw [(gn_at (s := a2) (w := a1) (i := x5) k1 (fun _ => rfl) (fun _ => rfl) ev75213 ev75211 ev75210 ev75212)]; omega) (by omega) (by omega)).2 (by omega)
      · refine ev_iload rfl ?_
        refine ev_iload rfl ?_
        refine ev_icmple f131_61 (fun c75215 => ?_) (fun c75215 => ?_)
        · refine ev_iinc (w := (x5 + 1)) (L' := [(2, 26), (0, a1), (0, a2), (0, x3), (0, x4), (0, (x5 + 1)), (0, (v75212 + (-10000) * v75213))]) rfl (by unfold w32; omega) rfl ?_
          refine ev_goto f131_8 ?_
          exact ih _ _ _ _ _ g1 k1 (by omega) (by omega) (by omega) (by omega) (by omega) (by omega) (by omega) (by omega) (by omega) (by omega) (by omega) (by omega) (by omega) (am_keep (f := (gnF h 32 33 a2 a1)) (x := x5) (v := (v75212 + (-10000) * v75213)) (by omega) H0 H1 (by rw [(gn_at (s := a2) (w := a1) (i := x5) k1 (fun _ => rfl) (fun _ => rfl) ev75213 ev75211 ev75210 ev75212)]; omega) (by omega) (by omega)).1 (am_keep (f := (gnF h 32 33 a2 a1)) (x := x5) (v := (v75212 + (-10000) * v75213)) (by omega) H0 H1 (by rw [(gn_at (s := a2) (w := a1) (i := x5) k1 (fun _ => rfl) (fun _ => rfl) ev75213 ev75211 ev75210 ev75212)]; omega) (by omega) (by omega)).2 (by omega)
        · refine ev_iload rfl ?_
          refine ev_istore (L' := [(2, 26), (0, a1), (0, a2), (0, x3), (0, (v75212 + (-10000) * v75213)), (0, x5), (0, (v75212 + (-10000) * v75213))]) (Nat.le_of_ble_eq_true rfl) rfl ?_
          refine ev_iload rfl ?_
          refine ev_istore_n (L' := [(2, 26), (0, a1), (0, a2), (0, x5), (0, (v75212 + (-10000) * v75213)), (0, x5), (0, (v75212 + (-10000) * v75213))]) (Nat.le_of_ble_eq_true rfl) rfl ?_
          refine ev_iinc (w := (x5 + 1)) (L' := [(2, 26), (0, a1), (0, a2), (0, x5), (0, (v75212 + (-10000) * v75213)), (0, (x5 + 1)), (0, (v75212 + (-10000) * v75213))]) rfl (by unfold w32; omega) rfl ?_
          refine ev_goto f131_8 ?_
          exact ih _ _ _ _ _ g1 k1 (by omega) (by omega) (by omega) (by omega) (by omega) (by omega) (by omega) (by omega) (by omega) (by omega) (by omega) (by omega) (by omega) (am_take (f := (gnF h 32 33 a2 a1)) (x := x5) (v := (v75212 + (-10000) * v75213)) (by omega) H0 H1 (by rw [(gn_at (s := a2) (w := a1) (i := x5) k1 (fun _ => rfl) (fun _ => rfl) ev75213 ev75211 ev75210 ev75212)]; omega) (by omega) (by omega)).1 (am_take (f := (gnF h 32 33 a2 a1)) (x := x5) (v := (v75212 + (-10000) * v75213)) (by omega) H0 H1 (by rw [(gn_at (s := a2) (w := a1) (i := x5) k1 (fun _ => rfl) (fun _ => rfl) ev75213 ev75211 ev75210 ev75212)]; omega) (by omega) (by omega)).2 (by omega)
set_option maxHeartbeats 4000000 in
theorem t131 {G : GH} {h : JH} (g : Gd G h) {a1 : Int} (la1 : 0 ≤ a1) (ua1 : a1 ≤ 999) {a2 : Int} (la2 : 0 ≤ a2) (ua2 : a2 ≤ 100) {w0 : Int} (ew0 : h.2.2 26 9 = w0) (lw0 : 0 ≤ w0) (uw0 : w0 ≤ 4) : jOk 1 0 0 131 [(2, 26), (0, a1), (0, a2)] h (fun v h' => ∃ r : Int, v = some (0, r) ∧ Gd G h' ∧ Kp [] h h' ∧ 0 ≤ r ∧ r ≤ 3 ∧ r = ehF h 32 33 w0 a2 a1) := by
  refine ⟨by decide, by rw [ml131]; exact Nat.le_of_ble_eq_true rfl, ?_⟩
  rw [ml131, pp131]
  show jEv _ none _ c131_0 0 0 _ (c131_0, [(2, 26), (0, a1), (0, a2), (9, 0), (9, 0), (9, 0), (9, 0)], [], h, 0, 0)
  have k0 := Kp.rf [] h
  refine ev_iconst ?_
  refine ev_istore_n (L' := [(2, 26), (0, a1), (0, a2), (0, 0), (9, 0), (9, 0), (9, 0)]) (Nat.le_of_ble_eq_true rfl) rfl ?_
  refine ev_iconst ?_
  refine ev_istore (L' := [(2, 26), (0, a1), (0, a2), (0, 0), (0, 0), (9, 0), (9, 0)]) (Nat.le_of_ble_eq_true rfl) rfl ?_
  refine ev_iconst ?_
  refine ev_istore (L' := [(2, 26), (0, a1), (0, a2), (0, 0), (0, 0), (0, 0), (9, 0)]) (Nat.le_of_ble_eq_true rfl) rfl ?_
  exact (t131_l la1 ua1 la2 ua2 ew0 lw0 uw0 10) _ _ _ _ _ g k0 (by omega) (by omega) (by omega) (by omega) (by omega) (by omega) (by omega) (by omega) (by omega) (by omega) (by omega) (by omega) (by omega) rfl (Or.inl rfl) (by omega)
set_option maxHeartbeats 4000000 in
theorem t348_l {G : GH} {h : JH} {a1 : Int} (la1 : 0 ≤ a1) (ua1 : a1 ≤ 100) {a2 : Int} (la2 : 0 ≤ a2) (ua2 : a2 ≤ 999) {w0 : Int} (ew0 : h.2.2 42 53 = w0) (lw0 : 0 ≤ w0) (uw0 : w0 ≤ 4) : ∀ N : Nat, (∀ (h1 : JH) (x3 x4 x5 : Int) (j6 : AV), Gd G h1 → Kp [] h h1 → 0 ≤ a1 → a1 ≤ 100 → 0 ≤ a2 → a2 ≤ 999 → 0 ≤ x3 → x3 ≤ 3 → (-990000) ≤ x4 → x4 ≤ 9990000 → 0 ≤ x5 → x5 ≤ 4 → ((-w0) + x5) ≤ 0 → x3 ≤ 3 → ((-x3)) ≤ 0 → x3 = am (gnF h 72 73 a1 a2) (x5).toNat → (x5 = 0 ∨ x4 = (gnF h 72 73 a1 a2) x3) → ((-x5) + 4) < N → jEv (jOk 0) none (fun _ => 0) c348_0 0 0 (fun v h' => ∃ r : Int, v = some (0, r) ∧ Gd G h' ∧ Kp [] h h' ∧ 0 ≤ r ∧ r ≤ 3 ∧ r = ehF h 72 73 w0 a1 a2) (c348_8, [(2, 42), (0, a1), (0, a2), (0, x3), (0, x4), (0, x5), j6], [], h1, 0, 0)) := by
  intro N
  induction N with
  | zero => exact fun h1 x3 x4 x5 j6 g1 k1 b0 b1 b2 b3 b4 b5 b6 b7 b8 b9 b10 b11 b12 b13 b14 hm => absurd hm (by omega)
  | succ N ih =>
    show _
    intro h1 x3 x4 x5 j6 g1 k1 b0 b1 b2 b3 b4 b5 b6 b7 b8 b9 b10 b11 b12 H0 H1 hm
    refine ev_iload rfl ?_
    refine ev_aload_n rfl ?_
    refine g_getv (r := 42) (v := w0) g1 ad42 (by decide) ft12_53 (((k1.v (by decide)).trans ew0)) ?_
    refine ev_icmpge f348_70 (fun c75257 => ?_) (fun c75257 => ?_)
    · refine ev_iload_n rfl ?_
      exact ev_ret rfl (by decide) (by decide) ⟨_, rfl, g1, k1, by omega, by omega, H0.trans (by unfold ehF; rw [show (x5).toNat = (w0).toNat by omega])⟩
    · refine ev_iload_n rfl ?_
      refine ev_iload_n rfl ?_
      refine g_imulB (a := 100) (b := 999) (a' := 0) (b' := 0) (by omega) (by omega) (by omega) (by omega) (by decide) (lo := 0) (hi := 99900) (by decide) (by decide) (fun v75258 ev75258 lv75258 uv75258 => ?_)
      refine ev_aload_n rfl ?_
      refine g_getp (r := 42) (c := 73) g1 ad42 (by decide) (by decide) rf42_55 ft12_55 ?_
      refine ev_iload rfl ?_
      refine g_iald g1 ad73 rt73 (by omega) (by omega) (fun v75259 ev75259 lv75259 uv75259 => ?_)
      refine g_imulB (a := 99900) (b := 100) (a' := 0) (b' := 0) (by omega) (by omega) (by omega) (by omega) (by decide) (lo := 0) (hi := 9990000) (by decide) (by decide) (fun v75260 ev75260 lv75260 uv75260 => ?_)
      refine ev_sipush ?_
      refine ev_aload_n rfl ?_
      refine g_getp (r := 42) (c := 72) g1 ad42 (by decide) (by decide) rf42_54 ft12_54 ?_
      refine ev_iload rfl ?_
      refine g_iald g1 ad72 rt72 (by omega) (by omega) (fun v75261 ev75261 lv75261 uv75261 => ?_)
      refine ev_imul (r := (10000 * v75261)) (by unfold w32; omega) ?_
      refine ev_isub (r := (v75260 + (-10000) * v75261)) (by unfold w32; omega) ?_
      refine ev_istore (L' := [(2, 42), (0, a1), (0, a2), (0, x3), (0, x4), (0, x5), (0, (v75260 + (-10000) * v75261))]) (Nat.le_of_ble_eq_true rfl) rfl ?_
      refine ev_iload rfl ?_
      refine ev_ifle f348_57 (fun c75262 => ?_) (fun c75262 => ?_)
      · refine ev_iload rfl ?_
        refine ev_istore_n (L' := [(2, 42), (0, a1), (0, a2), (0, x5), (0, x4), (0, x5), (0, (v75260 + (-10000) * v75261))]) (Nat.le_of_ble_eq_true rfl) rfl ?_
        refine ev_iload rfl ?_
        refine ev_istore (L' := [(2, 42), (0, a1), (0, a2), (0, x5), (0, (v75260 + (-10000) * v75261)), (0, x5), (0, (v75260 + (-10000) * v75261))]) (Nat.le_of_ble_eq_true rfl) rfl ?_
        refine ev_iinc (w := (x5 + 1)) (L' := [(2, 42), (0, a1), (0, a2), (0, x5), (0, (v75260 + (-10000) * v75261)), (0, (x5 + 1)), (0, (v75260 + (-10000) * v75261))]) rfl (by unfold w32; omega) rfl ?_
        refine ev_goto f348_8 ?_
        exact ih _ _ _ _ _ g1 k1 (by omega) (by omega) (by omega) (by omega) (by omega) (by omega) (by omega) (by omega) (by omega) (by omega) (by omega) (by omega) (by omega) (am_take (f := (gnF h 72 73 a1 a2)) (x := x5) (v := (v75260 + (-10000) * v75261)) (by omega) H0 H1 (by rw [(gn_at (s := a1) (w := a2) (i := x5) k1 (fun _ => rfl) (fun _ => rfl) ev75261 ev75259 ev75258 ev75260)]; omega) (by omega) (by omega)).1 (am_take (f := (gnF h 72 73 a1 a2)) (x := x5) (v := (v75260 + (-10000) * v75261)) (by omega) H0 H1 (by rw [(gn_at (s := a1) (w := a2) (i := x5) k1 (fun _ => rfl) (fun _ => rfl) ev75261 ev75259 ev75258 ev75260)]; omega) (by omega) (by omega)).2 (by omega)
      · refine ev_iload rfl ?_
        refine ev_iload rfl ?_
        refine ev_icmpgt f348_57 (fun c75263 => ?_) (fun c75263 => ?_)
        · refine ev_iload rfl ?_
          refine ev_istore_n (L' := [(2, 42), (0, a1), (0, a2), (0, x5), (0, x4), (0, x5), (0, (v75260 + (-10000) * v75261))]) (Nat.le_of_ble_eq_true rfl) rfl ?_
          refine ev_iload rfl ?_
          refine ev_istore (L' := [(2, 42), (0, a1), (0, a2), (0, x5), (0, (v75260 + (-10000) * v75261)), (0, x5), (0, (v75260 + (-10000) * v75261))]) (Nat.le_of_ble_eq_true rfl) rfl ?_
          refine ev_iinc (w := (x5 + 1)) (L' := [(2, 42), (0, a1), (0, a2), (0, x5), (0, (v75260 + (-10000) * v75261)), (0, (x5 + 1)), (0, (v75260 + (-10000) * v75261))]) rfl (by unfold w32; omega) rfl ?_
          refine ev_goto f348_8 ?_
          exact ih _ _ _ _ _ g1 k1 (by omega) (by omega) (by omega) (by omega) (by omega) (by omega) (by omega) (by omega) (by omega) (by omega) (by omega) (by omega) (by omega) (am_take (f := (gnF h 72 73 a1 a2)) (x := x5) (v := (v75260 + (-10000) * v75261)) (by omega) H0 H1 (by rw [(gn_at (s := a1) (w := a2) (i := x5) k1 (fun _ => rfl) (fun _ => rfl) ev75261 ev75259 ev75258 ev75260)]; omega) (by omega) (by omega)).1 (am_take (f := (gnF h 72 73 a1 a2)) (x := x5) (v := (v75260 + (-10000) * v75261)) (by omega) H0 H1 (by rw [(gn_at (s := a1) (w := a2) (i := x5) k1 (fun _ => rfl) (fun _ => rfl) ev75261 ev75259 ev75258 ev75260)]; omega) (by omega) (by omega)).2 (by omega)
        · refine ev_goto f348_64 ?_
          refine ev_iinc (w := (x5 + 1)) (L' := [(2, 42), (0, a1), (0, a2), (0, x3), (0, x4), (0, (x5 + 1)), (0, (v75260 + (-10000) * v75261))]) rfl (by unfold w32; omega) rfl ?_
          refine ev_goto f348_8 ?_
          exact ih _ _ _ _ _ g1 k1 (by omega) (by omega) (by omega) (by omega) (by omega) (by omega) (by omega) (by omega) (by omega) (by omega) (by omega) (by omega) (by omega) (am_keep (f := (gnF h 72 73 a1 a2)) (x := x5) (v := (v75260 + (-10000) * v75261)) (by omega) H0 H1 (by rw [(gn_at (s := a1) (w := a2) (i := x5) k1 (fun _ => rfl) (fun _ => rfl) ev75261 ev75259 ev75258 ev75260)]; omega) (by omega) (by omega)).1 (am_keep (f := (gnF h 72 73 a1 a2)) (x := x5) (v := (v75260 + (-10000) * v75261)) (by omega) H0 H1 (by rw [(gn_at (s := a1) (w := a2) (i := x5) k1 (fun _ => rfl) (fun _ => rfl) ev75261 ev75259 ev75258 ev75260)]; omega) (by omega) (by omega)).2 (by omega)
set_option maxHeartbeats 4000000 in
theorem t348 {G : GH} {h : JH} (g : Gd G h) {a1 : Int} (la1 : 0 ≤ a1) (ua1 : a1 ≤ 100) {a2 : Int} (la2 : 0 ≤ a2) (ua2 : a2 ≤ 999) {w0 : Int} (ew0 : h.2.2 42 53 = w0) (lw0 : 0 ≤ w0) (uw0 : w0 ≤ 4) : jOk 1 0 0 348 [(2, 42), (0, a1), (0, a2)] h (fun v h' => ∃ r : Int, v = some (0, r) ∧ Gd G h' ∧ Kp [] h h' ∧ 0 ≤ r ∧ r ≤ 3 ∧ r = ehF h 72 73 w0 a1 a2) := by
  refine ⟨by decide, by rw [ml348]; exact Nat.le_of_ble_eq_true rfl, ?_⟩
  rw [ml348, pp348]
  show jEv _ none _ c348_0 0 0 _ (c348_0, [(2, 42), (0, a1), (0, a2), (9, 0), (9, 0), (9, 0), (9, 0)], [], h, 0, 0)
  have k0 := Kp.rf [] h
  refine ev_iconst ?_
  refine ev_istore_n (L' := [(2, 42), (0, a1), (0, a2), (0, 0), (9, 0), (9, 0), (9, 0)]) (Nat.le_of_ble_eq_true rfl) rfl ?_
  refine ev_iconst ?_
  refine ev_istore (L' := [(2, 42), (0, a1), (0, a2), (0, 0), (0, 0), (9, 0), (9, 0)]) (Nat.le_of_ble_eq_true rfl) rfl ?_
  refine ev_iconst ?_
  refine ev_istore (L' := [(2, 42), (0, a1), (0, a2), (0, 0), (0, 0), (0, 0), (9, 0)]) (Nat.le_of_ble_eq_true rfl) rfl ?_
  exact (t348_l la1 ua1 la2 ua2 ew0 lw0 uw0 10) _ _ _ _ _ g k0 (by omega) (by omega) (by omega) (by omega) (by omega) (by omega) (by omega) (by omega) (by omega) (by omega) (by omega) (by omega) (by omega) rfl (Or.inl rfl) (by omega)
set_option maxHeartbeats 4000000 in
theorem t132 {G : GH} {h : JH} (g : Gd G h) {a1 : Int} (la1 : 0 ≤ a1) (ua1 : a1 ≤ 999) {a2 : Int} (la2 : 0 ≤ a2) (ua2 : a2 ≤ 100) {w0 : Int} (ew0 : h.2.2 26 9 = w0) (lw0 : 0 ≤ w0) (uw0 : w0 ≤ 4) : jOk 2 0 0 132 [(2, 26), (0, a1), (0, a2)] h (fun v h' => ∃ r : Int, v = some (0, r) ∧ Gd G h' ∧ Kp [] h h' ∧ 0 ≤ r ∧ r ≤ 9990000 ∧ r = lfF h 32 33 w0 a1 a2) := by
  refine ⟨by decide, by rw [ml132]; exact Nat.le_of_ble_eq_true rfl, ?_⟩
  rw [ml132, pp132]
  show jEv _ none _ c132_0 0 0 _ (c132_0, [(2, 26), (0, a1), (0, a2)], [], h, 0, 0)
  have k0 := Kp.rf [] h
  refine ev_bipush ?_
  refine ev_iload_n rfl ?_
  refine ev_isub (r := ((-a2) + 100)) (by unfold w32; omega) ?_
  refine ev_iload_n rfl ?_
  refine g_imulB (a := 100) (b := 999) (a' := 0) (b' := 0) (by omega) (by omega) (by omega) (by omega) (by decide) (lo := 0) (hi := 99900) (by decide) (by decide) (fun v75274 ev75274 lv75274 uv75274 => ?_)
  refine ev_aload_n rfl ?_
  refine g_getp (r := 26) (c := 33) g ad26 (by decide) (by decide) rf26_11 ft9_11 ?_
  refine ev_aload_n rfl ?_
  refine ev_iload_n rfl ?_
  refine ev_iload_n rfl ?_
  refine ev_call (jcall_v (A := [(0, a2), (0, a1)]) (S' := [(2, 33), (0, v75274)]) (r := 26) rfl (g.lt ad26) (g.tg ad26) (Nat.le_of_ble_eq_true rfl)) (jOk_le (by decide) (t131 g (by omega) (by omega) (by omega) (by omega) (ew0) (by omega) (by omega))) (by decide) (by decide) (fun w75275 h75275 q75275 => ?_)
  obtain ⟨v75276, rfl, g75275, kk75275, lv75276, uv75276, X75275⟩ := q75275
  have k75275 := k0.tr kk75275 (by decide)
  show jEv _ _ _ _ _ _ _ (_, [(2, 26), (0, a1), (0, a2)], [(0, v75276), (2, 33), (0, v75274)], _, _, _)
  refine g_iald g75275 ad33 rt33 (by omega) (by omega) (fun v75277 ev75277 lv75277 uv75277 => ?_)
  refine g_imulB (a := 99900) (b := 100) (a' := 0) (b' := 0) (by omega) (by omega) (by omega) (by omega) (by decide) (lo := 0) (hi := 9990000) (by decide) (by decide) (fun v75278 ev75278 lv75278 uv75278 => ?_)
  exact ev_ret rfl (by decide) (by decide) ⟨_, rfl, g75275, k75275, by omega, by omega, (lf_at (x := ((-a2) + 100)) (y := a1) (Kp.rf [] _) (fun _ => rfl) (fun _ => rfl) X75275 ((kk75275.v rfl).symm.trans ev75277) ev75274 (by omega) (by omega) ev75278).symm⟩
set_option maxHeartbeats 4000000 in
theorem t133_l {G : GH} {h : JH} {a1 : Int} (la1 : 0 ≤ a1) (ua1 : a1 ≤ 999) {w0 : Int} (ew0 : h.2.2 26 9 = w0) (lw0 : 0 ≤ w0) (uw0 : w0 ≤ 4) : ∀ N : Nat, (∀ (h1 : JH) (x2 x3 : Int), Gd G h1 → Kp [] h h1 → 0 ≤ a1 → a1 ≤ 999 → 0 ≤ x2 → x2 ≤ 100 → 1 ≤ x3 → x3 ≤ 101 → x3 ≤ 101 → ((-x3)) ≤ (-1) → x2 ≤ 100 → ((-x2)) ≤ 0 → x2 = am (lfF h 32 33 w0 a1) (x3).toNat → ((-x3) + 101) < N → jEv (jOk 2) none (fun _ => 0) c133_0 0 0 (fun v h' => ∃ r : Int, v = some (0, r) ∧ Gd G h' ∧ Kp [] h h' ∧ 0 ≤ r ∧ r ≤ 100 ∧ r = bsF h 32 33 w0 a1) (c133_4, [(2, 26), (0, a1), (0, x2), (0, x3)], [], h1, 0, 0)) := by
  intro N
  induction N with
  | zero => exact fun h1 x2 x3 g1 k1 b0 b1 b2 b3 b4 b5 b6 b7 b8 b9 b10 hm => absurd hm (by omega)
  | succ N ih =>
    show _
    intro h1 x2 x3 g1 k1 b0 b1 b2 b3 b4 b5 b6 b7 b8 b9 H0 hm
    refine ev_iload_n rfl ?_
    refine ev_bipush ?_
    refine ev_icmpgt f133_33 (fun c75513 => ?_) (fun c75513 => ?_)
    · refine ev_iload_n rfl ?_
      exact ev_ret rfl (by decide) (by decide) ⟨_, rfl, g1, k1, by omega, by omega, H0.trans (by unfold bsF; rw [show (x3).toNat = 101 by omega])⟩
    · refine ev_aload_n rfl ?_
      refine ev_iload_n rfl ?_
      refine ev_iload_n rfl ?_
      refine ev_call (jcall_v (A := [(0, x3), (0, a1)]) (S' := []) (r := 26) rfl (g1.lt ad26) (g1.tg ad26) (Nat.le_of_ble_eq_true rfl)) (jOk_le (by decide) (t132 g1 (by omega) (by omega) (by omega) (by omega) (((k1.v (by decide)).trans ew0)) (by omega) (by omega))) (by decide) (by decide) (fun w75514 h75514 q75514 => ?_)
      obtain ⟨v75515, rfl, g75514, kk75514, lv75515, uv75515, X75514⟩ := q75514
      have k75514 := k1.tr kk75514 (by decide)
      show jEv _ _ _ _ _ _ _ (_, [(2, 26), (0, a1), (0, x2), (0, x3)], [(0, v75515)], _, _, _)
      refine ev_aload_n rfl ?_
      refine ev_iload_n rfl ?_
      refine ev_iload_n rfl ?_
      refine ev_call (jcall_v (A := [(0, x2), (0, a1)]) (S' := [(0, v75515)]) (r := 26) rfl (g75514.lt ad26) (g75514.tg ad26) (Nat.le_of_ble_eq_true rfl)) (jOk_le (by decide) (t132 g75514 (by omega) (by omega) (by omega) (by omega) (((kk75514.v (by decide)).trans ((k1.v (by decide)).trans ew0))) (by omega) (by omega))) (by decide) (by decide) (fun w75516 h75516 q75516 => ?_)
      obtain ⟨v75517, rfl, g75516, kk75516, lv75517, uv75517, X75516⟩ := q75516
      have k75516 := k75514.tr kk75516 (by decide)
      show jEv _ _ _ _ _ _ _ (_, [(2, 26), (0, a1), (0, x2), (0, x3)], [(0, v75517), (0, v75515)], _, _, _)
      refine ev_icmple f133_27 (fun c75518 => ?_) (fun c75518 => ?_)
      · refine ev_iinc (w := (x3 + 1)) (L' := [(2, 26), (0, a1), (0, x2), (0, (x3 + 1))]) rfl (by unfold w32; omega) rfl ?_
        refine ev_goto f133_4 ?_
        exact ih _ _ _ g75516 k75516 (by omega) (by omega) (by omega) (by omega) (by omega) (by omega) (by omega) (by omega) (by omega) (by omega) (am_keep (f := (lfF h 32 33 w0 a1)) (x := x3) (m := v75517) (v := v75515) (by omega) H0 (Or.inr (by rw [← lf_kp k75514 (fun _ => rfl) (fun _ => rfl)]; exact X75516)) (by rw [← lf_kp k1 (fun _ => rfl) (fun _ => rfl)]; exact X75514) (by omega) (by omega)).1 (by omega)
      · refine ev_iload_n rfl ?_
        refine ev_istore_n (L' := [(2, 26), (0, a1), (0, x3), (0, x3)]) (Nat.le_of_ble_eq_true rfl) rfl ?_
        refine ev_iinc (w := (x3 + 1)) (L' := [(2, 26), (0, a1), (0, x3), (0, (x3 + 1))]) rfl (by unfold w32; omega) rfl ?_
        refine ev_goto f133_4 ?_
        exact ih _ _ _ g75516 k75516 (by omega) (by omega) (by omega) (by omega) (by omega) (by omega) (by omega) (by omega) (by omega) (by omega) (am_take (f := (lfF h 32 33 w0 a1)) (x := x3) (m := v75517) (v := v75515) (by omega) H0 (Or.inr (by rw [← lf_kp k75514 (fun _ => rfl) (fun _ => rfl)]; exact X75516)) (by rw [← lf_kp k1 (fun _ => rfl) (fun _ => rfl)]; exact X75514) (by omega) (by omega)).1 (by omega)
set_option maxHeartbeats 4000000 in
theorem t133 {G : GH} {h : JH} (g : Gd G h) {a1 : Int} (la1 : 0 ≤ a1) (ua1 : a1 ≤ 999) {w0 : Int} (ew0 : h.2.2 26 9 = w0) (lw0 : 0 ≤ w0) (uw0 : w0 ≤ 4) : jOk 3 0 0 133 [(2, 26), (0, a1)] h (fun v h' => ∃ r : Int, v = some (0, r) ∧ Gd G h' ∧ Kp [] h h' ∧ 0 ≤ r ∧ r ≤ 100 ∧ r = bsF h 32 33 w0 a1) := by
  refine ⟨by decide, by rw [ml133]; exact Nat.le_of_ble_eq_true rfl, ?_⟩
  rw [ml133, pp133]
  show jEv _ none _ c133_0 0 0 _ (c133_0, [(2, 26), (0, a1), (9, 0), (9, 0)], [], h, 0, 0)
  have k0 := Kp.rf [] h
  refine ev_iconst ?_
  refine ev_istore_n (L' := [(2, 26), (0, a1), (0, 0), (9, 0)]) (Nat.le_of_ble_eq_true rfl) rfl ?_
  refine ev_iconst ?_
  refine ev_istore_n (L' := [(2, 26), (0, a1), (0, 0), (0, 1)]) (Nat.le_of_ble_eq_true rfl) rfl ?_
  exact (t133_l la1 ua1 ew0 lw0 uw0 202) _ _ _ g k0 (by omega) (by omega) (by omega) (by omega) (by omega) (by omega) (by omega) (by omega) (by omega) (by omega) (by rw [show (1 : Int).toNat = 0 + 1 from rfl]; unfold am; rw [if_pos (Or.inl rfl)]; rfl) (by omega)
set_option maxHeartbeats 4000000 in
theorem t205 {G : GH} {h : JH} (g : Gd G h) {a1 : Int} (la1 : (-2147483648) ≤ a1) (ua1 : a1 ≤ 2147483647) {a2 : Int} (la2 : (-2147483648) ≤ a2) (ua2 : a2 ≤ 2147483647) {w0 : Int} (ew0 : h.2.2 26 9 = w0) (lw0 : 0 ≤ w0) (uw0 : w0 ≤ 4) : jOk 4 0 0 205 [(2, 0), (0, a1), (0, a2)] h (fun v h' => ∃ r : Int, v = some (0, r) ∧ Gd G h' ∧ Kp [(26, 10)] h h' ∧ (-9990000) ≤ r ∧ r ≤ 9990000 ∧ r = hrF h 32 33 w0 a1 a2 ∧ h'.2.2 26 9 = hiG a1 a2 w0) := by
  refine ⟨by decide, by rw [ml205]; exact Nat.le_of_ble_eq_true rfl, ?_⟩
  rw [ml205, pp205]
  show jEv _ none _ c205_0 0 0 _ (c205_0, [(2, 0), (0, a1), (0, a2), (9, 0)], [], h, 0, 0)
  have k0 := Kp.rf [(26, 10)] h
  refine ev_iload_n rfl ?_
  refine ev_iflt f205_21 (fun c75553 => ?_) (fun c75553 => ?_)
  · refine ev_iconst ?_
    exact ev_ret rfl (by decide) (by decide) ⟨_, rfl, g, k0, by omega, by omega, by unfold hrF; (repeat' split) <;> omega, ((ew0)).trans (by unfold hiG; (repeat' split) <;> omega)⟩
  · refine ev_iload_n rfl ?_
    refine ev_sipush ?_
    refine ev_icmpgt f205_21 (fun c75554 => ?_) (fun c75554 => ?_)
    · refine ev_iconst ?_
      exact ev_ret rfl (by decide) (by decide) ⟨_, rfl, g, k0, by omega, by omega, by unfold hrF; (repeat' split) <;> omega, ((ew0)).trans (by unfold hiG; (repeat' split) <;> omega)⟩
    · refine ev_iload_n rfl ?_
      refine ev_iconst ?_
      refine ev_icmplt f205_21 (fun c75555 => ?_) (fun c75555 => ?_)
      · refine ev_iconst ?_
        exact ev_ret rfl (by decide) (by decide) ⟨_, rfl, g, k0, by omega, by omega, by unfold hrF; (repeat' split) <;> omega, ((ew0)).trans (by unfold hiG; (repeat' split) <;> omega)⟩
      · refine ev_iload_n rfl ?_
        refine ev_iconst ?_
        refine ev_icmple f205_23 (fun c75556 => ?_) (fun c75556 => ?_)
        · refine ev_iload_n rfl ?_
          refine ev_iconst ?_
          refine ev_icmpne f205_36 (fun c75557 => ?_) (fun c75557 => ?_)
          · refine ev_aload_n rfl ?_
            refine g_getp (r := 0) (c := 26) g ad0 (by decide) (by decide) rf0_11 ft11_11 ?_
            refine g_getv (r := 26) (v := w0) g ad26 (by decide) ft9_9 (ew0) ?_
            refine ev_iconst ?_
            refine ev_icmpge f205_50 (fun c75558 => ?_) (fun c75558 => ?_)
            · refine ev_aload_n rfl ?_
              refine g_getp (r := 0) (c := 26) g ad0 (by decide) (by decide) rf0_11 ft11_11 ?_
              refine ev_iload_n rfl ?_
              refine ev_call (jcall_v (A := [(0, a1)]) (S' := []) (r := 26) rfl (g.lt ad26) (g.tg ad26) (Nat.le_of_ble_eq_true rfl)) (jOk_le (by decide) (t133 g (by omega) (by omega) (ew0) (by omega) (by omega))) (by decide) (by decide) (fun w75559 h75559 q75559 => ?_)
              obtain ⟨v75560, rfl, g75559, kk75559, lv75560, uv75560, X75559⟩ := q75559
              have k75559 := k0.tr kk75559 (by decide)
              show jEv _ _ _ _ _ _ _ (_, [(2, 0), (0, a1), (0, a2), (9, 0)], [(0, v75560)], _, _, _)
              refine ev_istore_n (L' := [(2, 0), (0, a1), (0, a2), (0, v75560)]) (Nat.le_of_ble_eq_true rfl) rfl ?_
              refine ev_iload_n rfl ?_
              refine ev_ifne f205_65 (fun c75561 => ?_) (fun c75561 => ?_)
              · refine ev_iload_n rfl ?_
                refine ev_iconst ?_
                refine ev_icmpne f205_82 (fun c75562 => ?_) (fun c75562 => ?_)
                · refine ev_aload_n rfl ?_
                  refine g_getp (r := 0) (c := 26) g75559 ad0 (by decide) (by decide) rf0_11 ft11_11 ?_
                  refine ev_iload_n rfl ?_
                  refine ev_iload_n rfl ?_
                  refine ev_call (jcall_v (A := [(0, v75560), (0, a1)]) (S' := []) (r := 26) rfl (g75559.lt ad26) (g75559.tg ad26) (Nat.le_of_ble_eq_true rfl)) (jOk_le (by decide) (t132 g75559 (by omega) (by omega) (by omega) (by omega) (((kk75559.v (by decide)).trans ew0)) (by omega) (by omega))) (by decide) (by decide) (fun w75563 h75563 q75563 => ?_)
                  obtain ⟨v75564, rfl, g75563, kk75563, lv75564, uv75564, X75563⟩ := q75563
                  have k75563 := k75559.tr kk75563 (by decide)
                  show jEv _ _ _ _ _ _ _ (_, [(2, 0), (0, a1), (0, a2), (0, v75560)], [(0, v75564)], _, _, _)
                  refine ev_i2l ?_
                  refine ev_ldc2_w ?_
                  refine ev_iload_n rfl ?_
                  refine ev_iconst ?_
                  refine ev_isub (r := (a2 - 2)) (by unfold w32; omega) ?_
                  refine ev_call (jcall_s (A := [(0, (a2 - 2)), (1, 10000), (1, v75564)]) (S' := []) (by decide) rfl (Nat.le_of_ble_eq_true rfl)) (jOk_le (by decide) (t223 g75563 (by omega) (by omega) (by omega) (by omega) (by omega) (by omega))) (by decide) (by decide) (fun w75565 h75565 q75565 => ?_)
                  obtain ⟨v75566, rfl, g75565, kk75565, lv75566, uv75566, X75565⟩ := q75565
                  have k75565 := k75563.tr kk75565 (by decide)
                  show jEv _ _ _ _ _ _ _ (_, [(2, 0), (0, a1), (0, a2), (0, v75560)], [(1, v75566)], _, _, _)
                  have zv75566 := fr_in (t := v75564) (b := 10000) (w := (a2 - 2)) (M := 9990000) (by omega) (by omega) (by omega) (by omega)
                  rw [← X75565] at zv75566
                  refine ev_l2i (r := v75566) (by unfold w32; omega) ?_
                  exact ev_ret rfl (by decide) (by decide) ⟨_, rfl, g75565, k75565, by omega, by omega, by unfold hrF; rw [if_pos (by omega), if_neg (by omega), if_neg (by omega), ← X75559]; rw [if_neg (by omega), if_neg (by omega), ← lf_kp kk75559 (fun _ => rfl) (fun _ => rfl), ← X75563]; exact X75565.trans (by rw [show ((a2 - 2) : Int) = a2 - 2 by omega]), ((((kk75565.v (by decide)).trans ((kk75563.v (by decide)).trans ((kk75559.v (by decide)).trans ew0))))).trans (by unfold hiG; (repeat' split) <;> omega)⟩
                · refine ev_aload_n rfl ?_
                  refine g_getp (r := 0) (c := 26) g75559 ad0 (by decide) (by decide) rf0_11 ft11_11 ?_
                  refine ev_iload_n rfl ?_
                  refine ev_iload_n rfl ?_
                  refine ev_call (jcall_v (A := [(0, v75560), (0, a1)]) (S' := []) (r := 26) rfl (g75559.lt ad26) (g75559.tg ad26) (Nat.le_of_ble_eq_true rfl)) (jOk_le (by decide) (t131 g75559 (by omega) (by omega) (by omega) (by omega) (((kk75559.v (by decide)).trans ew0)) (by omega) (by omega))) (by decide) (by decide) (fun w75567 h75567 q75567 => ?_)
                  obtain ⟨v75568, rfl, g75567, kk75567, lv75568, uv75568, X75567⟩ := q75567
                  have k75567 := k75559.tr kk75567 (by decide)
                  show jEv _ _ _ _ _ _ _ (_, [(2, 0), (0, a1), (0, a2), (0, v75560)], [(0, v75568)], _, _, _)
                  refine ev_goto f205_102 ?_
                  exact ev_ret rfl (by decide) (by decide) ⟨_, rfl, g75567, k75567, by omega, by omega, by unfold hrF; rw [if_pos (by omega), if_neg (by omega), if_neg (by omega), ← X75559]; rw [if_neg (by omega), if_pos (by omega), ← eh_kp kk75559 (fun _ => rfl) (fun _ => rfl)]; exact X75567, ((((kk75567.v (by decide)).trans ((kk75559.v (by decide)).trans ew0)))).trans (by unfold hiG; (repeat' split) <;> omega)⟩
              · refine ev_iload_n rfl ?_
                exact ev_ret rfl (by decide) (by decide) ⟨_, rfl, g75559, k75559, by omega, by omega, by unfold hrF; rw [if_pos (by omega), if_neg (by omega), if_neg (by omega), ← X75559]; rw [if_pos (by omega)], ((((kk75559.v (by decide)).trans ew0))).trans (by unfold hiG; (repeat' split) <;> omega)⟩
            · refine ev_bipush ?_
              exact ev_ret rfl (by decide) (by decide) ⟨_, rfl, g, k0, by omega, by omega, by unfold hrF; (repeat' split) <;> omega, ((ew0)).trans (by unfold hiG; (repeat' split) <;> omega)⟩
          · refine ev_aload_n rfl ?_
            refine g_getp (r := 0) (c := 26) g ad0 (by decide) (by decide) rf0_11 ft11_11 ?_
            refine ev_in (d := 2) (a := 0) (b := 0) (cd' := c130_0) (m := 2) (L0 := [(2, 26), (9, 0)]) (jcall_v (A := []) (S' := []) (r := 26) rfl (g.lt ad26) (g.tg ad26) (Nat.le_of_ble_eq_true rfl)) (by decide) ml130 pp130 (Nat.le_of_ble_eq_true rfl) rfl (by decide) (by decide) ?_
            refine ev_aload_n rfl ?_
            refine g_getv (r := 26) (v := w0) g ad26 (by decide) ft9_9 (ew0) ?_
            refine ev_istore_n (L' := [(2, 26), (0, w0)]) (Nat.le_of_ble_eq_true rfl) rfl ?_
            refine ev_aload_n rfl ?_
            refine ev_iconst ?_
            refine g_putf (r := 26) g ad26 (by decide) ft9_9 (by decide) (fun e => absurd e nz9_9) rf26_9 (by decide) (by omega) (by omega) (fun h75569 e75569 g75569 => ?_)
            have k75569 := k0.wr e75569 rfl
            refine ev_iload_n rfl ?_
            refine ev_ret rfl (by decide) (by decide) ?_
            show jEv _ _ _ _ _ _ _ (_, [(2, 0), (0, a1), (0, a2), (9, 0)], [(0, w0)], _, _, _)
            exact ev_ret rfl (by decide) (by decide) ⟨_, rfl, g75569, k75569, by omega, by omega, by unfold hrF; (repeat' split) <;> omega, (((jw_eq e75569))).trans (by unfold hiG; (repeat' split) <;> omega)⟩
        · refine ev_iconst ?_
          exact ev_ret rfl (by decide) (by decide) ⟨_, rfl, g, k0, by omega, by omega, by unfold hrF; (repeat' split) <;> omega, ((ew0)).trans (by unfold hiG; (repeat' split) <;> omega)⟩
set_option maxHeartbeats 4000000 in
theorem t349_l {G : GH} {h : JH} {a1 : Int} (la1 : (-2147483648) ≤ a1) (ua1 : a1 ≤ 2147483647) {a2 : Int} (la2 : (-2147483648) ≤ a2) (ua2 : a2 ≤ 2147483647) {w0 : Int} (ew0 : h.2.2 42 53 = w0) (lw0 : 0 ≤ w0) (uw0 : w0 ≤ 4) : ∀ N : Nat, (∀ (h1 : JH) (x3 x4 x5 y0 : Int) (j6 : AV), Gd G h1 → Kp [(42, 54)] h h1 → 0 ≤ a1 → a1 ≤ 999 → 0 ≤ a2 → a2 ≤ 3 → 0 ≤ x3 → x3 ≤ 100 → (-1) ≤ x4 → x4 ≤ 9990000 → 0 ≤ x5 → x5 ≤ 101 → ((-w0) + y0) ≤ 0 → (w0 + (-y0)) ≤ 0 → ((-w0)) ≤ (-2) → ((-a1)) ≤ 0 → a1 ≤ 999 → ((-a2)) ≤ 0 → a2 ≤ 3 → x5 ≤ 101 → ((-x5)) ≤ 0 → x3 ≤ 100 → ((-x3)) ≤ 0 → h1.2.2 42 53 = y0 → 0 ≤ y0 → y0 ≤ 4 → x3 = am (lfF h 72 73 w0 a1) (x5).toNat → ((x5 = 0 ∧ x4 = -1) ∨ (0 < x5 ∧ x4 = (lfF h 72 73 w0 a1) x3)) → ((-x5) + 101) < N → jEv (jOk 2) none (fun _ => 0) c349_0 0 0 (fun v h' => ∃ r : Int, v = some (0, r) ∧ Gd G h' ∧ Kp [(42, 54)] h h' ∧ (-9990000) ≤ r ∧ r ≤ 9990000 ∧ r = hrF h 72 73 w0 a1 a2 ∧ h'.2.2 42 53 = hiG a1 a2 w0) (c349_58, [(2, 42), (0, a1), (0, a2), (0, x3), (0, x4), (0, x5), j6], [], h1, 0, 0)) := by
  intro N
  induction N with
  | zero => exact fun h1 x3 x4 x5 y0 j6 g1 k1 b0 b1 b2 b3 b4 b5 b6 b7 b8 b9 b10 b11 b12 b13 b14 b15 b16 b17 b18 b19 b20 b21 b22 b23 b24 b25 hm => absurd hm (by omega)
  | succ N ih =>
    show _
    intro h1 x3 x4 x5 y0 j6 g1 k1 b0 b1 b2 b3 b4 b5 b6 b7 b8 b9 b10 b11 b12 b13 b14 b15 b16 b17 b18 b19 b20 ey0 ly0 uy0 H0 H1 hm
    refine ev_iload rfl ?_
    refine ev_bipush ?_
    refine ev_icmpgt f349_110 (fun c75887 => ?_) (fun c75887 => ?_)
    · refine ev_iload_n rfl ?_
      refine ev_iconst ?_
      refine ev_icmpge f349_130 (fun c75888 => ?_) (fun c75888 => ?_)
      · refine ev_iload rfl ?_
        refine ev_i2l ?_
        refine ev_ldc2_w ?_
        refine ev_iload_n rfl ?_
        refine ev_iconst ?_
        refine ev_isub (r := (a2 - 2)) (by unfold w32; omega) ?_
        refine ev_call (jcall_s (A := [(0, (a2 - 2)), (1, 10000), (1, x4)]) (S' := []) (by decide) rfl (Nat.le_of_ble_eq_true rfl)) (jOk_le (by decide) (t244 g1 (by omega) (by omega) (by omega) (by omega) (by omega) (by omega))) (by decide) (by decide) (fun w75889 h75889 q75889 => ?_)
        obtain ⟨v75890, rfl, g75889, kk75889, lv75890, uv75890, X75889⟩ := q75889
        have k75889 := k1.tr kk75889 (by decide)
        show jEv _ _ _ _ _ _ _ (_, [(2, 42), (0, a1), (0, a2), (0, x3), (0, x4), (0, x5), j6], [(1, v75890)], _, _, _)
        have zv75890 := fr_in (t := x4) (b := 10000) (w := (a2 - 2)) (M := 9990000) (by omega) (by omega) (by omega) (by omega)
        rw [← X75889] at zv75890
        refine ev_l2i (r := v75890) (by unfold w32; omega) ?_
        exact ev_ret rfl (by decide) (by decide) ⟨_, rfl, g75889, k75889, by omega, by omega, by unfold hrF; rw [if_pos (by omega), if_neg (by omega), if_neg (by omega), show bsF h 72 73 w0 a1 = x3 from (H0.trans (by unfold bsF; rw [show (x5).toNat = 101 by omega])).symm]; rw [if_neg (by omega), if_neg (by omega), ← (H1.resolve_left (by omega)).2]; exact X75889.trans (by rw [show ((a2 - 2) : Int) = a2 - 2 by omega]), ((((kk75889.v (by decide)).trans ey0))).trans (by unfold hiG; (repeat' split) <;> omega)⟩
      · refine ev_iload_n rfl ?_
        refine ev_ifne f349_123 (fun c75891 => ?_) (fun c75891 => ?_)
        · refine ev_aload_n rfl ?_
          refine ev_iload_n rfl ?_
          refine ev_iload_n rfl ?_
          refine ev_call (jcall_v (A := [(0, a1), (0, x3)]) (S' := []) (r := 42) rfl (g1.lt ad42) (g1.tg ad42) (Nat.le_of_ble_eq_true rfl)) (jOk_le (by decide) (t348 g1 (by omega) (by omega) (by omega) (by omega) (ey0) (by omega) (by omega))) (by decide) (by decide) (fun w75892 h75892 q75892 => ?_)
          obtain ⟨v75893, rfl, g75892, kk75892, lv75893, uv75893, X75892⟩ := q75892
          have k75892 := k1.tr kk75892 (by decide)
          show jEv _ _ _ _ _ _ _ (_, [(2, 42), (0, a1), (0, a2), (0, x3), (0, x4), (0, x5), j6], [(0, v75893)], _, _, _)
          exact ev_ret rfl (by decide) (by decide) ⟨_, rfl, g75892, k75892, by omega, by omega, by unfold hrF; rw [if_pos (by omega), if_neg (by omega), if_neg (by omega), show bsF h 72 73 w0 a1 = x3 from (H0.trans (by unfold bsF; rw [show (x5).toNat = 101 by omega])).symm]; rw [if_neg (by omega), if_pos (by omega), ← eh_kp k1 (fun _ => rfl) (fun _ => rfl)]; exact X75892.trans (by rw [show y0 = w0 by omega]), ((((kk75892.v (by decide)).trans ey0))).trans (by unfold hiG; (repeat' split) <;> omega)⟩
        · refine ev_iload_n rfl ?_
          refine ev_goto f349_129 ?_
          exact ev_ret rfl (by decide) (by decide) ⟨_, rfl, g1, k1, by omega, by omega, by unfold hrF; rw [if_pos (by omega), if_neg (by omega), if_neg (by omega), show bsF h 72 73 w0 a1 = x3 from (H0.trans (by unfold bsF; rw [show (x5).toNat = 101 by omega])).symm]; rw [if_pos (by omega)], ((ey0)).trans (by unfold hiG; (repeat' split) <;> omega)⟩
    · refine ev_bipush ?_
      refine ev_iload rfl ?_
      refine ev_isub (r := ((-x5) + 100)) (by unfold w32; omega) ?_
      refine ev_iload_n rfl ?_
      refine g_imulB (a := 100) (b := 999) (a' := 0) (b' := 0) (by omega) (by omega) (by omega) (by omega) (by decide) (lo := 0) (hi := 99900) (by decide) (by decide) (fun v75894 ev75894 lv75894 uv75894 => ?_)
      refine ev_aload_n rfl ?_
      refine g_getp (r := 42) (c := 73) g1 ad42 (by decide) (by decide) rf42_55 ft12_55 ?_
      refine ev_aload_n rfl ?_
      refine ev_iload rfl ?_
      refine ev_iload_n rfl ?_
      refine ev_call (jcall_v (A := [(0, a1), (0, x5)]) (S' := [(2, 73), (0, v75894)]) (r := 42) rfl (g1.lt ad42) (g1.tg ad42) (Nat.le_of_ble_eq_true rfl)) (jOk_le (by decide) (t348 g1 (by omega) (by omega) (by omega) (by omega) (ey0) (by omega) (by omega))) (by decide) (by decide) (fun w75895 h75895 q75895 => ?_)
      obtain ⟨v75896, rfl, g75895, kk75895, lv75896, uv75896, X75895⟩ := q75895
      have k75895 := k1.tr kk75895 (by decide)
      show jEv _ _ _ _ _ _ _ (_, [(2, 42), (0, a1), (0, a2), (0, x3), (0, x4), (0, x5), j6], [(0, v75896), (2, 73), (0, v75894)], _, _, _)
      refine g_iald g75895 ad73 rt73 (by omega) (by omega) (fun v75897 ev75897 lv75897 uv75897 => ?_)
      refine g_imulB (a := 99900) (b := 100) (a' := 0) (b' := 0) (by omega) (by omega) (by omega) (by omega) (by decide) (lo := 0) (hi := 9990000) (by decide) (by decide) (fun v75898 ev75898 lv75898 uv75898 => ?_)
      refine ev_istore (L' := [(2, 42), (0, a1), (0, a2), (0, x3), (0, x4), (0, x5), (0, v75898)]) (Nat.le_of_ble_eq_true rfl) rfl ?_
      refine ev_iload rfl ?_
      refine ev_iload rfl ?_
      refine ev_icmpgt f349_97 (fun c75899 => ?_) (fun c75899 => ?_)
      · refine ev_iload rfl ?_
        refine ev_istore_n (L' := [(2, 42), (0, a1), (0, a2), (0, x5), (0, x4), (0, x5), (0, v75898)]) (Nat.le_of_ble_eq_true rfl) rfl ?_
        refine ev_iload rfl ?_
        refine ev_istore (L' := [(2, 42), (0, a1), (0, a2), (0, x5), (0, v75898), (0, x5), (0, v75898)]) (Nat.le_of_ble_eq_true rfl) rfl ?_
        refine ev_iinc (w := (x5 + 1)) (L' := [(2, 42), (0, a1), (0, a2), (0, x5), (0, v75898), (0, (x5 + 1)), (0, v75898)]) rfl (by unfold w32; omega) rfl ?_
        refine ev_goto f349_58 ?_
        exact ih _ _ _ _ _ _ g75895 k75895 (by omega) (by omega) (by omega) (by omega) (by omega) (by omega) (by omega) (by omega) (by omega) (by omega) (by omega) (by omega) (by omega) (by omega) (by omega) (by omega) (by omega) (by omega) (by omega) (by omega) (by omega) (((kk75895.v (by decide)).trans ey0)) (by omega) (by omega) (am_take (f := (lfF h 72 73 w0 a1)) (x := x5) (v := v75898) (y := (x5 + 1)) (by omega) H0 (H1.imp And.left And.right) (lf_at (x := ((-x5) + 100)) (y := a1) k1 (fun _ => rfl) (fun _ => rfl) (X75895.trans (by rw [show y0 = w0 by omega])) ((kk75895.v rfl).symm.trans ev75897) ev75894 (by omega) (by omega) ev75898).symm (by omega) (by omega)).1 (Or.inr ⟨by omega, ((am_take (f := (lfF h 72 73 w0 a1)) (x := x5) (v := v75898) (y := (x5 + 1)) (by omega) H0 (H1.imp And.left And.right) (lf_at (x := ((-x5) + 100)) (y := a1) k1 (fun _ => rfl) (fun _ => rfl) (X75895.trans (by rw [show y0 = w0 by omega])) ((kk75895.v rfl).symm.trans ev75897) ev75894 (by omega) (by omega) ev75898).symm (by omega) (by omega)).2).resolve_left (by omega)⟩) (by omega)
      · refine ev_goto f349_104 ?_
        refine ev_iinc (w := (x5 + 1)) (L' := [(2, 42), (0, a1), (0, a2), (0, x3), (0, x4), (0, (x5 + 1)), (0, v75898)]) rfl (by unfold w32; omega) rfl ?_
        refine ev_goto f349_58 ?_
        exact ih _ _ _ _ _ _ g75895 k75895 (by omega) (by omega) (by omega) (by omega) (by omega) (by omega) (by omega) (by omega) (by omega) (by omega) (by omega) (by omega) (by omega) (by omega) (by omega) (by omega) (by omega) (by omega) (by omega) (by omega) (by omega) (((kk75895.v (by decide)).trans ey0)) (by omega) (by omega) (am_keep (f := (lfF h 72 73 w0 a1)) (x := x5) (v := v75898) (y := (x5 + 1)) (by omega) H0 (H1.imp And.left And.right) (lf_at (x := ((-x5) + 100)) (y := a1) k1 (fun _ => rfl) (fun _ => rfl) (X75895.trans (by rw [show y0 = w0 by omega])) ((kk75895.v rfl).symm.trans ev75897) ev75894 (by omega) (by omega) ev75898).symm (by omega) (by omega)).1 (Or.inr ⟨by omega, ((am_keep (f := (lfF h 72 73 w0 a1)) (x := x5) (v := v75898) (y := (x5 + 1)) (by omega) H0 (H1.imp And.left And.right) (lf_at (x := ((-x5) + 100)) (y := a1) k1 (fun _ => rfl) (fun _ => rfl) (X75895.trans (by rw [show y0 = w0 by omega])) ((kk75895.v rfl).symm.trans ev75897) ev75894 (by omega) (by omega) ev75898).symm (by omega) (by omega)).2).resolve_left (by omega)⟩) (by omega)
set_option maxHeartbeats 4000000 in
theorem t349 {G : GH} {h : JH} (g : Gd G h) {a1 : Int} (la1 : (-2147483648) ≤ a1) (ua1 : a1 ≤ 2147483647) {a2 : Int} (la2 : (-2147483648) ≤ a2) (ua2 : a2 ≤ 2147483647) {w0 : Int} (ew0 : h.2.2 42 53 = w0) (lw0 : 0 ≤ w0) (uw0 : w0 ≤ 4) : jOk 3 0 0 349 [(2, 42), (0, a1), (0, a2)] h (fun v h' => ∃ r : Int, v = some (0, r) ∧ Gd G h' ∧ Kp [(42, 54)] h h' ∧ (-9990000) ≤ r ∧ r ≤ 9990000 ∧ r = hrF h 72 73 w0 a1 a2 ∧ h'.2.2 42 53 = hiG a1 a2 w0) := by
  refine ⟨by decide, by rw [ml349]; exact Nat.le_of_ble_eq_true rfl, ?_⟩
  rw [ml349, pp349]
  show jEv _ none _ c349_0 0 0 _ (c349_0, [(2, 42), (0, a1), (0, a2), (9, 0), (9, 0), (9, 0), (9, 0)], [], h, 0, 0)
  have k0 := Kp.rf [(42, 54)] h
  refine ev_iload_n rfl ?_
  refine ev_iconst ?_
  refine ev_sipush ?_
  refine ev_in (d := 1) (a := 0) (b := 0) (cd' := c242_0) (m := 3) (L0 := [(0, a1), (0, 0), (0, 999)]) (jcall_s (A := [(0, 999), (0, 0), (0, a1)]) (S' := []) (by decide) rfl (Nat.le_of_ble_eq_true rfl)) (by decide) ml242 pp242 (Nat.le_of_ble_eq_true rfl) rfl (by decide) (by decide) ?_
  refine ev_iload_n rfl ?_
  refine ev_iload_n rfl ?_
  refine ev_icmplt f242_14 (fun c75900 => ?_) (fun c75900 => ?_)
  · refine ev_iconst ?_
    refine ev_ret rfl (by decide) (by decide) ?_
    show jEv _ _ _ _ _ _ _ (_, [(2, 42), (0, a1), (0, a2), (9, 0), (9, 0), (9, 0), (9, 0)], [(0, 0)], _, _, _)
    refine ev_ifeq f349_20 (fun c75901 => ?_) (fun c75901 => absurd c75901 (by omega))
    refine ev_iconst ?_
    exact ev_ret rfl (by decide) (by decide) ⟨_, rfl, g, k0, by omega, by omega, by unfold hrF; (repeat' split) <;> omega, ((ew0)).trans (by unfold hiG; (repeat' split) <;> omega)⟩
  · refine ev_iload_n rfl ?_
    refine ev_iload_n rfl ?_
    refine ev_icmpgt f242_14 (fun c75902 => ?_) (fun c75902 => ?_)
    · refine ev_iconst ?_
      refine ev_ret rfl (by decide) (by decide) ?_
      show jEv _ _ _ _ _ _ _ (_, [(2, 42), (0, a1), (0, a2), (9, 0), (9, 0), (9, 0), (9, 0)], [(0, 0)], _, _, _)
      refine ev_ifeq f349_20 (fun c75903 => ?_) (fun c75903 => absurd c75903 (by omega))
      refine ev_iconst ?_
      exact ev_ret rfl (by decide) (by decide) ⟨_, rfl, g, k0, by omega, by omega, by unfold hrF; (repeat' split) <;> omega, ((ew0)).trans (by unfold hiG; (repeat' split) <;> omega)⟩
    · refine ev_iconst ?_
      refine ev_goto f242_15 ?_
      refine ev_ret rfl (by decide) (by decide) ?_
      show jEv _ _ _ _ _ _ _ (_, [(2, 42), (0, a1), (0, a2), (9, 0), (9, 0), (9, 0), (9, 0)], [(0, 1)], _, _, _)
      refine ev_ifeq f349_20 (fun c75904 => absurd c75904 (by omega)) (fun c75904 => ?_)
      refine ev_iload_n rfl ?_
      refine ev_iconst ?_
      refine ev_iconst ?_
      refine ev_in (d := 1) (a := 0) (b := 0) (cd' := c242_0) (m := 3) (L0 := [(0, a2), (0, (-1)), (0, 3)]) (jcall_s (A := [(0, 3), (0, (-1)), (0, a2)]) (S' := []) (by decide) rfl (Nat.le_of_ble_eq_true rfl)) (by decide) ml242 pp242 (Nat.le_of_ble_eq_true rfl) rfl (by decide) (by decide) ?_
      refine ev_iload_n rfl ?_
      refine ev_iload_n rfl ?_
      refine ev_icmplt f242_14 (fun c75905 => ?_) (fun c75905 => ?_)
      · refine ev_iconst ?_
        refine ev_ret rfl (by decide) (by decide) ?_
        show jEv _ _ _ _ _ _ _ (_, [(2, 42), (0, a1), (0, a2), (9, 0), (9, 0), (9, 0), (9, 0)], [(0, 0)], _, _, _)
        refine ev_ifne f349_22 (fun c75906 => absurd c75906 (by omega)) (fun c75906 => ?_)
        refine ev_iconst ?_
        exact ev_ret rfl (by decide) (by decide) ⟨_, rfl, g, k0, by omega, by omega, by unfold hrF; (repeat' split) <;> omega, ((ew0)).trans (by unfold hiG; (repeat' split) <;> omega)⟩
      · refine ev_iload_n rfl ?_
        refine ev_iload_n rfl ?_
        refine ev_icmpgt f242_14 (fun c75907 => ?_) (fun c75907 => ?_)
        · refine ev_iconst ?_
          refine ev_ret rfl (by decide) (by decide) ?_
          show jEv _ _ _ _ _ _ _ (_, [(2, 42), (0, a1), (0, a2), (9, 0), (9, 0), (9, 0), (9, 0)], [(0, 0)], _, _, _)
          refine ev_ifne f349_22 (fun c75908 => absurd c75908 (by omega)) (fun c75908 => ?_)
          refine ev_iconst ?_
          exact ev_ret rfl (by decide) (by decide) ⟨_, rfl, g, k0, by omega, by omega, by unfold hrF; (repeat' split) <;> omega, ((ew0)).trans (by unfold hiG; (repeat' split) <;> omega)⟩
        · refine ev_iconst ?_
          refine ev_goto f242_15 ?_
          refine ev_ret rfl (by decide) (by decide) ?_
          show jEv _ _ _ _ _ _ _ (_, [(2, 42), (0, a1), (0, a2), (9, 0), (9, 0), (9, 0), (9, 0)], [(0, 1)], _, _, _)
          refine ev_ifne f349_22 (fun c75909 => ?_) (fun c75909 => absurd c75909 (by omega))
          refine ev_iload_n rfl ?_
          refine ev_iconst ?_
          refine ev_icmpne f349_39 (fun c75910 => ?_) (fun c75910 => ?_)
          · refine ev_aload_n rfl ?_
            refine g_getv (r := 42) (v := w0) g ad42 (by decide) ft12_53 (ew0) ?_
            refine ev_iconst ?_
            refine ev_icmpge f349_50 (fun c75911 => ?_) (fun c75911 => ?_)
            · refine ev_iconst ?_
              refine ev_istore_n (L' := [(2, 42), (0, a1), (0, a2), (0, 0), (9, 0), (9, 0), (9, 0)]) (Nat.le_of_ble_eq_true rfl) rfl ?_
              refine ev_iconst ?_
              refine ev_istore (L' := [(2, 42), (0, a1), (0, a2), (0, 0), (0, (-1)), (9, 0), (9, 0)]) (Nat.le_of_ble_eq_true rfl) rfl ?_
              refine ev_iconst ?_
              refine ev_istore (L' := [(2, 42), (0, a1), (0, a2), (0, 0), (0, (-1)), (0, 0), (9, 0)]) (Nat.le_of_ble_eq_true rfl) rfl ?_
              exact (t349_l la1 ua1 la2 ua2 ew0 lw0 uw0 204) _ _ _ _ _ _ g k0 (by omega) (by omega) (by omega) (by omega) (by omega) (by omega) (by omega) (by omega) (by omega) (by omega) (by omega) (by omega) (by omega) (by omega) (by omega) (by omega) (by omega) (by omega) (by omega) (by omega) (by omega) (ew0) (by omega) (by omega) rfl (Or.inl ⟨rfl, rfl⟩) (by omega)
            · refine ev_bipush ?_
              exact ev_ret rfl (by decide) (by decide) ⟨_, rfl, g, k0, by omega, by omega, by unfold hrF; (repeat' split) <;> omega, ((ew0)).trans (by unfold hiG; (repeat' split) <;> omega)⟩
          · refine ev_aload_n rfl ?_
            refine g_getv (r := 42) (v := w0) g ad42 (by decide) ft12_53 (ew0) ?_
            refine ev_istore_n (L' := [(2, 42), (0, a1), (0, a2), (0, w0), (9, 0), (9, 0), (9, 0)]) (Nat.le_of_ble_eq_true rfl) rfl ?_
            refine ev_aload_n rfl ?_
            refine ev_iconst ?_
            refine g_putf (r := 42) g ad42 (by decide) ft12_53 (by decide) (fun e => absurd e nz12_53) rf42_53 (by decide) (by omega) (by omega) (fun h75912 e75912 g75912 => ?_)
            have k75912 := k0.wr e75912 rfl
            refine ev_iload_n rfl ?_
            exact ev_ret rfl (by decide) (by decide) ⟨_, rfl, g75912, k75912, by omega, by omega, by unfold hrF; (repeat' split) <;> omega, (((jw_eq e75912))).trans (by unfold hiG; (repeat' split) <;> omega)⟩
theorem jn11 : jN 11 = 17 := by decide +kernel
theorem jn12 : jN 12 = 66 := by decide +kernel
theorem ml384 : jML jnM = 4 := by decide +kernel
theorem pp384 : jP jnM = c384_0 := rfl
set_option maxRecDepth 100000 in
theorem jlawN : jchkN jnM = true := jchkNF_ok (by decide +kernel)
set_option maxRecDepth 100000 in
theorem f384_18 : jfind c384_0 18 = some c384_18 := rfl
set_option maxRecDepth 100000 in
theorem f384_260 : jfind c384_0 260 = some c384_260 := rfl
set_option maxRecDepth 100000 in
theorem f384_283 : jfind c384_0 283 = some c384_283 := rfl
set_option maxRecDepth 100000 in
theorem f384_316 : jfind c384_0 316 = some c384_316 := rfl
set_option maxRecDepth 100000 in
theorem f384_369 : jfind c384_0 369 = some c384_369 := rfl
set_option maxRecDepth 100000 in
theorem f384_382 : jfind c384_0 382 = some c384_382 := rfl
set_option maxRecDepth 100000 in
theorem f384_405 : jfind c384_0 405 = some c384_405 := rfl
set_option maxRecDepth 100000 in
theorem f384_448 : jfind c384_0 448 = some c384_448 := rfl
set_option maxRecDepth 100000 in
theorem f384_481 : jfind c384_0 481 = some c384_481 := rfl
set_option maxRecDepth 100000 in
theorem f384_494 : jfind c384_0 494 = some c384_494 := rfl
set_option maxRecDepth 100000 in
theorem f384_537 : jfind c384_0 537 = some c384_537 := rfl
set_option maxRecDepth 100000 in
theorem f384_590 : jfind c384_0 590 = some c384_590 := rfl
set_option maxRecDepth 100000 in
theorem f384_603 : jfind c384_0 603 = some c384_603 := rfl
set_option maxRecDepth 100000 in
theorem f384_616 : jfind c384_0 616 = some c384_616 := rfl
set_option maxRecDepth 100000 in
theorem f384_649 : jfind c384_0 649 = some c384_649 := rfl
set_option maxRecDepth 100000 in
theorem f384_682 : jfind c384_0 682 = some c384_682 := rfl
set_option maxRecDepth 100000 in
theorem f384_715 : jfind c384_0 715 = some c384_715 := rfl
set_option maxRecDepth 100000 in
theorem f384_758 : jfind c384_0 758 = some c384_758 := rfl
set_option maxRecDepth 100000 in
theorem f384_801 : jfind c384_0 801 = some c384_801 := rfl
set_option maxRecDepth 100000 in
theorem f384_844 : jfind c384_0 844 = some c384_844 := rfl
set_option maxRecDepth 100000 in
theorem f384_877 : jfind c384_0 877 = some c384_877 := rfl
set_option maxRecDepth 100000 in
theorem f384_930 : jfind c384_0 930 = some c384_930 := rfl
set_option maxRecDepth 100000 in
theorem f384_963 : jfind c384_0 963 = some c384_963 := rfl
set_option maxRecDepth 100000 in
theorem f384_1006 : jfind c384_0 1006 = some c384_1006 := rfl
set_option maxRecDepth 100000 in
theorem f384_1059 : jfind c384_0 1059 = some c384_1059 := rfl
set_option maxRecDepth 100000 in
theorem f384_1082 : jfind c384_0 1082 = some c384_1082 := rfl
set_option maxRecDepth 100000 in
theorem f384_1125 : jfind c384_0 1125 = some c384_1125 := rfl
set_option maxRecDepth 100000 in
theorem f384_1178 : jfind c384_0 1178 = some c384_1178 := rfl
set_option maxRecDepth 100000 in
theorem f384_1201 : jfind c384_0 1201 = some c384_1201 := rfl
set_option maxRecDepth 100000 in
theorem f384_1254 : jfind c384_0 1254 = some c384_1254 := rfl
set_option maxRecDepth 100000 in
theorem f384_1307 : jfind c384_0 1307 = some c384_1307 := rfl
set_option maxRecDepth 100000 in
theorem f384_1340 : jfind c384_0 1340 = some c384_1340 := rfl
set_option maxRecDepth 100000 in
theorem f384_1383 : jfind c384_0 1383 = some c384_1383 := rfl
set_option maxRecDepth 100000 in
theorem f384_1406 : jfind c384_0 1406 = some c384_1406 := rfl
set_option maxRecDepth 100000 in
theorem f384_1429 : jfind c384_0 1429 = some c384_1429 := rfl
set_option maxRecDepth 100000 in
theorem f384_1452 : jfind c384_0 1452 = some c384_1452 := rfl
set_option maxRecDepth 100000 in
theorem f384_1495 : jfind c384_0 1495 = some c384_1495 := rfl
set_option maxRecDepth 100000 in
theorem f384_1518 : jfind c384_0 1518 = some c384_1518 := rfl
set_option maxRecDepth 100000 in
theorem f384_1551 : jfind c384_0 1551 = some c384_1551 := rfl
set_option maxRecDepth 100000 in
theorem f384_1564 : jfind c384_0 1564 = some c384_1564 := rfl
set_option maxRecDepth 100000 in
theorem f384_1597 : jfind c384_0 1597 = some c384_1597 := rfl
set_option maxRecDepth 100000 in
theorem f384_1630 : jfind c384_0 1630 = some c384_1630 := rfl
set_option maxRecDepth 100000 in
theorem f384_1683 : jfind c384_0 1683 = some c384_1683 := rfl
set_option maxRecDepth 100000 in
theorem f384_1726 : jfind c384_0 1726 = some c384_1726 := rfl
set_option maxRecDepth 100000 in
theorem f384_1769 : jfind c384_0 1769 = some c384_1769 := rfl
set_option maxRecDepth 100000 in
theorem f384_1812 : jfind c384_0 1812 = some c384_1812 := rfl
set_option maxRecDepth 100000 in
theorem f384_1855 : jfind c384_0 1855 = some c384_1855 := rfl
set_option maxRecDepth 100000 in
theorem f384_1878 : jfind c384_0 1878 = some c384_1878 := rfl
set_option maxRecDepth 100000 in
theorem f384_1911 : jfind c384_0 1911 = some c384_1911 := rfl
set_option maxRecDepth 100000 in
theorem f384_1954 : jfind c384_0 1954 = some c384_1954 := rfl
set_option maxRecDepth 100000 in
theorem f384_2027 : jfind c384_0 2027 = some c384_2027 := rfl
set_option maxRecDepth 100000 in
theorem f384_2060 : jfind c384_0 2060 = some c384_2060 := rfl
set_option maxRecDepth 100000 in
theorem f384_2123 : jfind c384_0 2123 = some c384_2123 := rfl
set_option maxRecDepth 100000 in
theorem f384_2156 : jfind c384_0 2156 = some c384_2156 := rfl
set_option maxRecDepth 100000 in
theorem f384_2179 : jfind c384_0 2179 = some c384_2179 := rfl
set_option maxRecDepth 100000 in
theorem f384_2185 : jfind c384_0 2185 = some c384_2185 := rfl

