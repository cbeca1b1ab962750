/-- the same heap but for one cell -/
def FrX (c : Nat) (h h' : JH) : Prop := FS h' ∧ ∀ a i, a ≠ c → h'.2.2 a i = h.2.2 a i
theorem FrX.v {c : Nat} {h h' : JH} (e : FrX c h h') {a i : Nat} (ha : a ≠ c) : h'.2.2 a i = h.2.2 a i := e.2 a i ha
theorem row_c {ok : Nat → Nat → Nat → List AV → JH → (Option AV → JH → Prop) → Prop} {xs : Nat → Int} {mc ms cu su : Nat} {Q : Option AV → JH → Prop} {s so n : Int} (s0 : 0 ≤ s) (s1 : s ≤ 5) (n1 : n ≤ 60) : ∀ (N : Nat) (i : Int) (h : JH), 0 ≤ i → i + N = n → FS h → h.2.2 0 14 = 39 → (∀ h', FrX 39 h h' → jEv ok none xs c213_0 mc ms Q (c213_73, [(2, 0), (0, s), (0, so), (0, n), (0, n)], [], h', cu, su)) → jEv ok none xs c213_0 mc ms Q (c213_48, [(2, 0), (0, s), (0, so), (0, n), (0, i)], [], h, cu, su) := by
  intro N
  induction N with
  | zero =>
    intro i h i0 e hS hv k
    have : i = n := by omega
    subst this
    refine ev_iload rfl ?_
    refine ev_iload_n rfl ?_
    refine ev_icmpge f213_73 (fun c => ?_) (fun c => absurd c (by omega))
    exact k h ⟨hS, fun _ _ _ => rfl⟩
  | succ N ih =>
    intro i h i0 e hS hv k
    refine ev_iload rfl ?_
    refine ev_iload_n rfl ?_
    refine ev_icmpge f213_73 (fun c => absurd c (by omega)) (fun c => ?_)
    refine ev_aload_n rfl ?_
    refine ev_getf (r := 0) (v := 39) (hS.lt (by decide)) (hS.fam (by decide) (by decide)) ft11_14 hv ?_
    refine ev_bipush ?_
    refine ev_iload_n rfl ?_
    refine ev_imul (r := 60 * s) (by unfold w32; omega) ?_
    refine ev_iload rfl ?_
    refine ev_iadd (r := 60 * s + i) (by unfold w32; omega) ?_
    refine ev_lconst ?_
    refine ev_lastG (r := 39) (j := (60 * s + i).toNat) (hS.lt (by decide)) (hS.sh (by decide) rfl).1 (by omega) (hS.inbx (by decide) (n := 360) (by decide) (by omega)) (fun h1 e1 => ?_)
    refine ev_iinc (w := i + 1) (L' := [(2, 0), (0, s), (0, so), (0, n), (0, i + 1)]) rfl (by unfold w32; omega) rfl ?_
    refine ev_goto f213_48 ?_
    refine ih _ _ (by omega) (by omega) (hS.wr e1) ((jw_ne e1 (Or.inl (by decide))).trans hv) (fun h' f => k h' ⟨f.1, fun a j ha => (f.2 a j ha).trans (jw_ne e1 (Or.inl ha))⟩)
theorem row_m {ok : Nat → Nat → Nat → List AV → JH → (Option AV → JH → Prop) → Prop} {xs : Nat → Int} {mc ms cu su : Nat} {Q : Option AV → JH → Prop} {s so n : Int} (s0 : 0 ≤ s) (s1 : s ≤ 5) : ∀ (N : Nat) (i : Int) (h : JH), 60 * s ≤ i → i + N = 60 * s + 60 → FS h → h.2.2 42 64 = 81 → (∀ h', FrX 81 h h' → jEv ok none xs c372_0 mc ms Q (c372_80, [(2, 42), (0, s), (0, so), (0, n), (0, 60 * s + 60)], [], h', cu, su)) → jEv ok none xs c372_0 mc ms Q (c372_54, [(2, 42), (0, s), (0, so), (0, n), (0, i)], [], h, cu, su) := by
  intro N
  induction N with
  | zero =>
    intro i h i0 e hS hv k
    have : i = 60 * s + 60 := by omega
    subst this
    refine ev_iload rfl ?_
    refine ev_bipush ?_
    refine ev_iload_n rfl ?_
    refine ev_imul (r := 60 * s) (by unfold w32; omega) ?_
    refine ev_bipush ?_
    refine ev_iadd (r := 60 * s + 60) (by unfold w32; omega) ?_
    refine ev_icmpge f372_80 (fun c => ?_) (fun c => absurd c (by omega))
    exact k h ⟨hS, fun _ _ _ => rfl⟩
  | succ N ih =>
    intro i h i0 e hS hv k
    refine ev_iload rfl ?_
    refine ev_bipush ?_
    refine ev_iload_n rfl ?_
    refine ev_imul (r := 60 * s) (by unfold w32; omega) ?_
    refine ev_bipush ?_
    refine ev_iadd (r := 60 * s + 60) (by unfold w32; omega) ?_
    refine ev_icmpge f372_80 (fun c => absurd c (by omega)) (fun c => ?_)
    refine ev_aload_n rfl ?_
    refine ev_getf (r := 42) (v := 81) (hS.lt (by decide)) (hS.fam (by decide) (by decide)) ft12_64 hv ?_
    refine ev_iload rfl ?_
    refine ev_lconst ?_
    refine ev_lastG (r := 81) (j := i.toNat) (hS.lt (by decide)) (hS.sh (by decide) rfl).1 (by omega) (hS.inbx (by decide) (n := 360) (by decide) (by omega)) (fun h1 e1 => ?_)
    refine ev_iinc (w := i + 1) (L' := [(2, 42), (0, s), (0, so), (0, n), (0, i + 1)]) rfl (by unfold w32; omega) rfl ?_
    refine ev_goto f372_54 ?_
    refine ih _ _ (by omega) (by omega) (hS.wr e1) ((jw_ne e1 (Or.inl (by decide))).trans hv) (fun h' f => k h' ⟨f.1, fun a j ha => (f.2 a j ha).trans (jw_ne e1 (Or.inl ha))⟩)
/-- a quotient that is even -/
theorem fd_e {x y q : Int} {h : JH} (hx : x = q * y) (hy : 0 < y) (h0 : -4611686018427387904 ≤ x) (h1 : x ≤ 4611686018427387904) : jOk 1 0 0 378 [(1, x), (1, y)] h (fun v h' => v = some (1, q) ∧ h' = h) := by
  refine ⟨by decide, by rw [ml378]; exact Nat.le_of_ble_eq_true rfl, ?_⟩
  rw [ml378, pp378]
  show jEv _ none _ c378_0 0 0 _ (c378_0, [(1, x), (9, 0), (1, y), (9, 0), (9, 0), (9, 0)], [], h, 0, 0)
  have hd : x.tdiv y = q := by rw [hx]; exact Int.mul_tdiv_cancel _ (by omega)
  have hb2 : -4611686018427387904 ≤ q ∧ q ≤ 4611686018427387904 := by
    rcases Int.le_total 0 q with h | h
    · have h2 : q * 1 ≤ q * y := Int.mul_le_mul_of_nonneg_left (by omega) h
      omega
    · have h2 : q * y ≤ q * 1 := Int.mul_le_mul_of_nonpos_left h (by omega)
      omega
  refine ev_lload_n rfl ?_
  refine ev_lload_n rfl ?_
  refine ev_ldiv (r := q) (by omega) (by rw [hd]; unfold w64; omega) ?_
  refine ev_lstore (L' := [(1, x), (9, 0), (1, y), (9, 0), (1, q), (9, 0)]) (Nat.le_of_ble_eq_true rfl) rfl ?_
  refine ev_lload_n rfl ?_
  refine ev_lload_n rfl ?_
  refine ev_lxor (r := jxorL x y) rfl ?_
  refine ev_lconst ?_
  refine ev_lcmp ?_
  refine ev_ifge f378_27 (fun c => ?_) (fun c => ?_)
  · refine ev_lload rfl ?_
    exact ev_ret rfl (by decide) (by decide) ⟨rfl, rfl⟩
  · refine ev_lload rfl ?_
    refine ev_lload_n rfl ?_
    refine ev_lmul (r := x) (by rw [← hx]; unfold w64; omega) ?_
    refine ev_lload_n rfl ?_
    refine ev_lcmp ?_
    refine ev_ifeq f378_27 (fun c2 => ?_) (fun c2 => absurd rfl (jcmpL_ne c2))
    refine ev_lload rfl ?_
    exact ev_ret rfl (by decide) (by decide) ⟨rfl, rfl⟩

theorem wf_l {h : JH} (hF : Fresh h) {day many court : Int} (d0 : 0 ≤ day) (d1 : day ≤ 20) (m0 : 1 ≤ many) (m1 : many ≤ 20) (c0 : -999 ≤ court) (c1 : court ≤ 999) : ∀ (N : Nat) (k : Int) (a7 a8 a9 a10 : AV), k < 20 → k + 1 ≤ N → jEv (jOk 2) none (fun _ => 0) c136_0 0 0 (fun v h' => v = some (1, 1000000 * court) ∧ h' = h) (c136_18, [(2, 26), (0, day), (0, many), (0, court), (1, 1000000 * court), (9, 0), (0, k), a7, a8, a9, a10], [], h, 0, 0) := by
  intro N
  induction N with
  | zero =>
    intro k a7 a8 a9 a10 h1 h2
    refine ev_iload rfl ?_
    refine ev_iflt f136_105 (fun c => ?_) (fun c => absurd c (by omega))
    refine ev_lload rfl ?_
    exact ev_ret rfl (by decide) (by decide) ⟨rfl, rfl⟩
  | succ N ih =>
    intro k a7 a8 a9 a10 h1 h2
    refine ev_iload rfl ?_
    refine ev_iflt f136_105 (fun c => ?_) (fun c => ?_)
    · refine ev_lload rfl ?_
      exact ev_ret rfl (by decide) (by decide) ⟨rfl, rfl⟩
    refine ev_iload rfl ?_
    refine ev_iload_n rfl ?_
    refine ev_icmplt f136_105 (fun c => ?_) (fun c => ?_)
    · refine ev_lload rfl ?_
      exact ev_ret rfl (by decide) (by decide) ⟨rfl, rfl⟩
    refine ev_lload rfl ?_
    refine ev_ldc2_w ?_
    refine ev_aload_n rfl ?_
    refine ev_getf (r := 26) (v := 36) (hF.1.lt (by decide)) (hF.1.fam (by decide) (by decide)) ft9_14 ((hF.v rfl)) ?_
    refine ev_iload rfl ?_
    refine ev_iald (r := 36) (j := (k).toNat) (v := 0) (hF.1.lt (by decide)) (hF.1.sh (by decide) rfl).1 (by omega) (hF.1.inbx (by decide) (n := 20) (by decide) (by omega)) (hF.uni (n := 20) (by decide) (by omega)) ?_
    refine ev_i2l ?_
    refine ev_lmul (r := 0) (by decide) ?_
    refine ev_lsub (r := (1000000 * court)) (by unfold w64; omega) ?_
    refine ev_lstore (L' := [(2, 26), (0, day), (0, many), (0, court), (1, (1000000 * court)), (9, 0), (0, k), (1, (1000000 * court)), (9, 0), a9, a10]) (Nat.le_of_ble_eq_true rfl) rfl ?_
    refine ev_ldc2_w ?_
    refine ev_aload_n rfl ?_
    refine ev_getf (r := 26) (v := 34) (hF.1.lt (by decide)) (hF.1.fam (by decide) (by decide)) ft9_12 ((hF.v rfl)) ?_
    refine ev_iload rfl ?_
    refine ev_iald (r := 34) (j := (k).toNat) (v := 0) (hF.1.lt (by decide)) (hF.1.sh (by decide) rfl).1 (by omega) (hF.1.inbx (by decide) (n := 20) (by decide) (by omega)) (hF.uni (n := 20) (by decide) (by omega)) ?_
    refine ev_i2l ?_
    refine ev_lmul (r := 0) (by decide) ?_
    refine ev_lload rfl ?_
    refine ev_in (d := 1) (a := 0) (b := 0) (cd' := c380_0) (m := 4) (L0 := [(1, 0), (9, 0), (1, (1000000 * court)), (9, 0)]) (jcall_s (A := [(1, (1000000 * court)), (1, 0)]) (S' := []) (by decide) rfl (Nat.le_of_ble_eq_true rfl)) (by decide) ml380 pp380 (Nat.le_of_ble_eq_true rfl) rfl (by decide) (by decide) ?_
    refine ev_lload_n rfl ?_
    refine ev_lload_n rfl ?_
    refine ev_lcmp ?_
    refine ev_iflt f380_10 (fun c1 => ?_) (fun c1 => ?_)
    · have c1b := jcmpL_lt c1
      refine ev_lload_n rfl ?_
      refine ev_ret rfl (by decide) (by decide) ?_
      show jEv _ _ _ _ _ _ _ (_, [(2, 26), (0, day), (0, many), (0, court), (1, (1000000 * court)), (9, 0), (0, k), (1, (1000000 * court)), (9, 0), a9, a10], [(1, (1000000 * court))], _, _, _)
      refine ev_lstore (L' := [(2, 26), (0, day), (0, many), (0, court), (1, (1000000 * court)), (9, 0), (0, k), (1, (1000000 * court)), (9, 0), (1, (1000000 * court)), (9, 0)]) (Nat.le_of_ble_eq_true rfl) rfl ?_
      refine ev_aload_n rfl ?_
      refine ev_getf (r := 26) (v := 35) (hF.1.lt (by decide)) (hF.1.fam (by decide) (by decide)) ft9_13 ((hF.v rfl)) ?_
      refine ev_iload rfl ?_
      refine ev_iald (r := 35) (j := (k).toNat) (v := 0) (hF.1.lt (by decide)) (hF.1.sh (by decide) rfl).1 (by omega) (hF.1.inbx (by decide) (n := 20) (by decide) (by omega)) (hF.uni (n := 20) (by decide) (by omega)) ?_
      refine ev_i2l ?_
      refine ev_lload rfl ?_
      refine ev_lmul (r := 0) (by unfold w64; omega) ?_
      refine ev_bipush ?_
      refine ev_aload_n rfl ?_
      refine ev_getf (r := 26) (v := 35) (hF.1.lt (by decide)) (hF.1.fam (by decide) (by decide)) ft9_13 ((hF.v rfl)) ?_
      refine ev_iload rfl ?_
      refine ev_iald (r := 35) (j := (k).toNat) (v := 0) (hF.1.lt (by decide)) (hF.1.sh (by decide) rfl).1 (by omega) (hF.1.inbx (by decide) (n := 20) (by decide) (by omega)) (hF.uni (n := 20) (by decide) (by omega)) ?_
      refine ev_isub (r := 100) (by decide) ?_
      refine ev_i2l ?_
      refine ev_lload rfl ?_
      refine ev_lmul (r := (100000000 * court)) (by unfold w64; omega) ?_
      refine ev_ladd (r := (100000000 * court)) (by unfold w64; omega) ?_
      refine ev_ldc2_w ?_
      refine ev_call (jcall_s (A := [(1, 100), (1, (100000000 * court))]) (S' := []) (by decide) rfl (Nat.le_of_ble_eq_true rfl)) (jOk_le (by decide) (fd_e (q := (1000000 * court)) (by omega) (by decide) (by omega) (by omega))) (by decide) (by decide) (fun v h' q => ?_)
      obtain ⟨rfl, rfl⟩ := q
      show jEv _ _ _ _ _ _ _ (_, [(2, 26), (0, day), (0, many), (0, court), (1, (1000000 * court)), (9, 0), (0, k), (1, (1000000 * court)), (9, 0), (1, (1000000 * court)), (9, 0)], [(1, (1000000 * court))], _, _, _)
      refine ev_lstore (L' := [(2, 26), (0, day), (0, many), (0, court), (1, (1000000 * court)), (9, 0), (0, k), (1, (1000000 * court)), (9, 0), (1, (1000000 * court)), (9, 0)]) (Nat.le_of_ble_eq_true rfl) rfl ?_
      refine ev_iinc (w := (k - 1)) (L' := [(2, 26), (0, day), (0, many), (0, court), (1, (1000000 * court)), (9, 0), (0, (k - 1)), (1, (1000000 * court)), (9, 0), (1, (1000000 * court)), (9, 0)]) rfl (by unfold w32; omega) rfl ?_
      refine ev_goto f136_18 ?_
      exact ih _ _ _ _ _ (by omega) (by omega)
    · have c1b := jcmpL_ltN c1
      refine ev_lload_n rfl ?_
      refine ev_goto f380_11 ?_
      refine ev_ret rfl (by decide) (by decide) ?_
      show jEv _ _ _ _ _ _ _ (_, [(2, 26), (0, day), (0, many), (0, court), (1, (1000000 * court)), (9, 0), (0, k), (1, (1000000 * court)), (9, 0), a9, a10], [(1, 0)], _, _, _)
      refine ev_lstore (L' := [(2, 26), (0, day), (0, many), (0, court), (1, (1000000 * court)), (9, 0), (0, k), (1, (1000000 * court)), (9, 0), (1, 0), (9, 0)]) (Nat.le_of_ble_eq_true rfl) rfl ?_
      refine ev_aload_n rfl ?_
      refine ev_getf (r := 26) (v := 35) (hF.1.lt (by decide)) (hF.1.fam (by decide) (by decide)) ft9_13 ((hF.v rfl)) ?_
      refine ev_iload rfl ?_
      refine ev_iald (r := 35) (j := (k).toNat) (v := 0) (hF.1.lt (by decide)) (hF.1.sh (by decide) rfl).1 (by omega) (hF.1.inbx (by decide) (n := 20) (by decide) (by omega)) (hF.uni (n := 20) (by decide) (by omega)) ?_
      refine ev_i2l ?_
      refine ev_lload rfl ?_
      refine ev_lmul (r := 0) (by decide) ?_
      refine ev_bipush ?_
      refine ev_aload_n rfl ?_
      refine ev_getf (r := 26) (v := 35) (hF.1.lt (by decide)) (hF.1.fam (by decide) (by decide)) ft9_13 ((hF.v rfl)) ?_
      refine ev_iload rfl ?_
      refine ev_iald (r := 35) (j := (k).toNat) (v := 0) (hF.1.lt (by decide)) (hF.1.sh (by decide) rfl).1 (by omega) (hF.1.inbx (by decide) (n := 20) (by decide) (by omega)) (hF.uni (n := 20) (by decide) (by omega)) ?_
      refine ev_isub (r := 100) (by decide) ?_
      refine ev_i2l ?_
      refine ev_lload rfl ?_
      refine ev_lmul (r := (100000000 * court)) (by unfold w64; omega) ?_
      refine ev_ladd (r := (100000000 * court)) (by unfold w64; omega) ?_
      refine ev_ldc2_w ?_
      refine ev_call (jcall_s (A := [(1, 100), (1, (100000000 * court))]) (S' := []) (by decide) rfl (Nat.le_of_ble_eq_true rfl)) (jOk_le (by decide) (fd_e (q := (1000000 * court)) (by omega) (by decide) (by omega) (by omega))) (by decide) (by decide) (fun v h' q => ?_)
      obtain ⟨rfl, rfl⟩ := q
      show jEv _ _ _ _ _ _ _ (_, [(2, 26), (0, day), (0, many), (0, court), (1, (1000000 * court)), (9, 0), (0, k), (1, (1000000 * court)), (9, 0), (1, 0), (9, 0)], [(1, (1000000 * court))], _, _, _)
      refine ev_lstore (L' := [(2, 26), (0, day), (0, many), (0, court), (1, (1000000 * court)), (9, 0), (0, k), (1, (1000000 * court)), (9, 0), (1, 0), (9, 0)]) (Nat.le_of_ble_eq_true rfl) rfl ?_
      refine ev_iinc (w := (k - 1)) (L' := [(2, 26), (0, day), (0, many), (0, court), (1, (1000000 * court)), (9, 0), (0, (k - 1)), (1, (1000000 * court)), (9, 0), (1, 0), (9, 0)]) rfl (by unfold w32; omega) rfl ?_
      refine ev_goto f136_18 ?_
      exact ih _ _ _ _ _ (by omega) (by omega)
theorem wf_c {h : JH} (hF : Fresh h) {day many court : Int} (d0 : 0 ≤ day) (d1 : day ≤ 20) (m0 : 1 ≤ many) (m1 : many ≤ 20) (c0 : -999 ≤ court) (c1 : court ≤ 999) : jOk 3 0 0 136 [(2, 26), (0, day), (0, many), (0, court)] h (fun v h' => v = some (1, 1000000 * court) ∧ h' = h) := by
  refine ⟨by decide, by rw [ml136]; exact Nat.le_of_ble_eq_true rfl, ?_⟩
  rw [ml136, pp136]
  show jEv _ none _ c136_0 0 0 _ (c136_0, [(2, 26), (0, day), (0, many), (0, court), (9, 0), (9, 0), (9, 0), (9, 0), (9, 0), (9, 0), (9, 0)], [], h, 0, 0)
  refine ev_ldc2_w ?_
  refine ev_iload_n rfl ?_
  refine ev_i2l ?_
  refine ev_lmul (r := (1000000 * court)) (by unfold w64; omega) ?_
  refine ev_lstore (L' := [(2, 26), (0, day), (0, many), (0, court), (1, (1000000 * court)), (9, 0), (9, 0), (9, 0), (9, 0), (9, 0), (9, 0)]) (Nat.le_of_ble_eq_true rfl) rfl ?_
  refine ev_iload_n rfl ?_
  refine ev_bipush ?_
  refine ev_in (d := 1) (a := 0) (b := 0) (cd' := c381_0) (m := 2) (L0 := [(0, many), (0, 20)]) (jcall_s (A := [(0, 20), (0, many)]) (S' := []) (by decide) rfl (Nat.le_of_ble_eq_true rfl)) (by decide) ml381 pp381 (Nat.le_of_ble_eq_true rfl) rfl (by decide) (by decide) ?_
  refine ev_iload_n rfl ?_
  refine ev_iload_n rfl ?_
  refine ev_icmpgt f381_9 (fun c2 => absurd c2 (by omega)) (fun c2 => ?_)
  refine ev_iload_n rfl ?_
  refine ev_goto f381_10 ?_
  refine ev_ret rfl (by decide) (by decide) ?_
  show jEv _ _ _ _ _ _ _ (_, [(2, 26), (0, day), (0, many), (0, court), (1, (1000000 * court)), (9, 0), (9, 0), (9, 0), (9, 0), (9, 0), (9, 0)], [(0, many)], _, _, _)
  refine ev_iconst ?_
  refine ev_isub (r := (many - 1)) (by unfold w32; omega) ?_
  refine ev_istore (L' := [(2, 26), (0, day), (0, many), (0, court), (1, (1000000 * court)), (9, 0), (0, (many - 1)), (9, 0), (9, 0), (9, 0), (9, 0)]) (Nat.le_of_ble_eq_true rfl) rfl ?_
  exact wf_l hF d0 d1 m0 m1 c0 c1 21 _ _ _ _ _ (by omega) (by omega)
theorem wt_x {h : JH} {Q : Option AV → JH → Prop} {of court what day many : Int} {a11 a12 a13 a14 : AV} (kk : ∀ a11 a12 a13 a14 : AV, jEv (jOk 7) none (fun _ => 0) c353_0 0 0 Q (c353_172, [(2, 42), (0, of), (0, court), (0, what), (0, day), (0, many), (1, 1000000 * court), (9, 0), (1, 1000000 * court), (9, 0), (0, (day - 1)), a11, a12, a13, a14], [], h, 0, 0)) : jEv (jOk 7) none (fun _ => 0) c353_0 0 0 Q (c353_77, [(2, 42), (0, of), (0, court), (0, what), (0, day), (0, many), (1, 1000000 * court), (9, 0), (1, 1000000 * court), (9, 0), (0, (day - 1)), a11, a12, a13, a14], [], h, 0, 0) := by
  refine ev_iload rfl ?_
  refine ev_iload rfl ?_
  refine ev_icmplt f353_172 (fun c => ?_) (fun c => absurd c (by omega))
  exact kk _ _ _ _
theorem wt_m {h : JH} (hF : Fresh h) {Q : Option AV → JH → Prop} {of court what day many : Int} (d0 : 0 ≤ day) (d1 : day ≤ 19) (m1 : many ≤ 20) (c0 : -999 ≤ court) (c1 : court ≤ 999) : ∀ (N : Nat) (k w : Int) (a11 a12 a13 a14 : AV), k < 20 → (day ≤ k ∧ k + 1 ≤ day + N) → (∀ a11 a12 a13 a14 : AV, jEv (jOk 7) none (fun _ => 0) c353_0 0 0 Q (c353_172, [(2, 42), (0, of), (0, court), (0, what), (0, day), (0, many), (1, 1000000 * court), (9, 0), (1, 1000000 * court), (9, 0), (0, (day - 1)), a11, a12, a13, a14], [], h, 0, 0)) → jEv (jOk 7) none (fun _ => 0) c353_0 0 0 Q (c353_77, [(2, 42), (0, of), (0, court), (0, what), (0, day), (0, many), (1, 1000000 * court), (9, 0), (1, w), (9, 0), (0, k), a11, a12, a13, a14], [], h, 0, 0) := by
  intro N
  induction N with
  | zero => intro k w a11 a12 a13 a14 h1 h2 kk; omega
  | succ N ih =>
    intro k w a11 a12 a13 a14 h1 h2 kk
    refine ev_iload rfl ?_
    refine ev_iload rfl ?_
    refine ev_icmplt f353_172 (fun c => absurd c (by omega)) (fun c => ?_)
    refine ev_lload rfl ?_
    refine ev_ldc2_w ?_
    refine ev_aload_n rfl ?_
    refine ev_getf (r := 42) (v := 76) (hF.1.lt (by decide)) (hF.1.fam (by decide) (by decide)) ft12_58 ((hF.v rfl)) ?_
    refine ev_iload rfl ?_
    refine ev_iald (r := 76) (j := (k).toNat) (v := 0) (hF.1.lt (by decide)) (hF.1.sh (by decide) rfl).1 (by omega) (hF.1.inbx (by decide) (n := 20) (by decide) (by omega)) (hF.uni (n := 20) (by decide) (by omega)) ?_
    refine ev_i2l ?_
    refine ev_lmul (r := 0) (by decide) ?_
    refine ev_lsub (r := (1000000 * court)) (by unfold w64; omega) ?_
    refine ev_lstore (L' := [(2, 42), (0, of), (0, court), (0, what), (0, day), (0, many), (1, (1000000 * court)), (9, 0), (1, (1000000 * court)), (9, 0), (0, k), a11, a12, a13, a14]) (Nat.le_of_ble_eq_true rfl) rfl ?_
    refine ev_ldc2_w ?_
    refine ev_aload_n rfl ?_
    refine ev_getf (r := 42) (v := 74) (hF.1.lt (by decide)) (hF.1.fam (by decide) (by decide)) ft12_56 ((hF.v rfl)) ?_
    refine ev_iload rfl ?_
    refine ev_iald (r := 74) (j := (k).toNat) (v := 0) (hF.1.lt (by decide)) (hF.1.sh (by decide) rfl).1 (by omega) (hF.1.inbx (by decide) (n := 20) (by decide) (by omega)) (hF.uni (n := 20) (by decide) (by omega)) ?_
    refine ev_i2l ?_
    refine ev_lmul (r := 0) (by decide) ?_
    refine ev_lstore (L' := [(2, 42), (0, of), (0, court), (0, what), (0, day), (0, many), (1, (1000000 * court)), (9, 0), (1, (1000000 * court)), (9, 0), (0, k), (1, 0), (9, 0), a13, a14]) (Nat.le_of_ble_eq_true rfl) rfl ?_
    refine ev_lload rfl ?_
    refine ev_lload rfl ?_
    refine ev_lcmp ?_
    refine ev_ifle f353_128 (fun c3 => ?_) (fun c3 => ?_)
    · have c3b := jcmpL_le c3
      refine ev_lload rfl ?_
      refine ev_lstore (L' := [(2, 42), (0, of), (0, court), (0, what), (0, day), (0, many), (1, (1000000 * court)), (9, 0), (1, (1000000 * court)), (9, 0), (0, k), (1, 0), (9, 0), (1, (1000000 * court)), (9, 0)]) (Nat.le_of_ble_eq_true rfl) rfl ?_
      refine ev_aload_n rfl ?_
      refine ev_getf (r := 42) (v := 75) (hF.1.lt (by decide)) (hF.1.fam (by decide) (by decide)) ft12_57 ((hF.v rfl)) ?_
      refine ev_iload rfl ?_
      refine ev_iald (r := 75) (j := (k).toNat) (v := 0) (hF.1.lt (by decide)) (hF.1.sh (by decide) rfl).1 (by omega) (hF.1.inbx (by decide) (n := 20) (by decide) (by omega)) (hF.uni (n := 20) (by decide) (by omega)) ?_
      refine ev_i2l ?_
      refine ev_lload rfl ?_
      refine ev_lmul (r := 0) (by unfold w64; omega) ?_
      refine ev_bipush ?_
      refine ev_aload_n rfl ?_
      refine ev_getf (r := 42) (v := 75) (hF.1.lt (by decide)) (hF.1.fam (by decide) (by decide)) ft12_57 ((hF.v rfl)) ?_
      refine ev_iload rfl ?_
      refine ev_iald (r := 75) (j := (k).toNat) (v := 0) (hF.1.lt (by decide)) (hF.1.sh (by decide) rfl).1 (by omega) (hF.1.inbx (by decide) (n := 20) (by decide) (by omega)) (hF.uni (n := 20) (by decide) (by omega)) ?_
      refine ev_isub (r := 100) (by decide) ?_
      refine ev_i2l ?_
      refine ev_lload rfl ?_
      refine ev_lmul (r := (100000000 * court)) (by unfold w64; omega) ?_
      refine ev_ladd (r := (100000000 * court)) (by unfold w64; omega) ?_
      refine ev_ldc2_w ?_
      refine ev_call (jcall_s (A := [(1, 100), (1, (100000000 * court))]) (S' := []) (by decide) rfl (Nat.le_of_ble_eq_true rfl)) (jOk_le (by decide) (fd_e (q := (1000000 * court)) (by omega) (by decide) (by omega) (by omega))) (by decide) (by decide) (fun v h' q => ?_)
      obtain ⟨rfl, rfl⟩ := q
      show jEv _ _ _ _ _ _ _ (_, [(2, 42), (0, of), (0, court), (0, what), (0, day), (0, many), (1, (1000000 * court)), (9, 0), (1, (1000000 * court)), (9, 0), (0, k), (1, 0), (9, 0), (1, (1000000 * court)), (9, 0)], [(1, (1000000 * court))], _, _, _)
      refine ev_lstore (L' := [(2, 42), (0, of), (0, court), (0, what), (0, day), (0, many), (1, (1000000 * court)), (9, 0), (1, (1000000 * court)), (9, 0), (0, k), (1, 0), (9, 0), (1, (1000000 * court)), (9, 0)]) (Nat.le_of_ble_eq_true rfl) rfl ?_
      refine ev_iinc (w := (k - 1)) (L' := [(2, 42), (0, of), (0, court), (0, what), (0, day), (0, many), (1, (1000000 * court)), (9, 0), (1, (1000000 * court)), (9, 0), (0, (k - 1)), (1, 0), (9, 0), (1, (1000000 * court)), (9, 0)]) rfl (by unfold w32; omega) rfl ?_
      refine ev_goto f353_77 ?_
      rcases (show k = day ∨ day < k by omega) with hk | hk
      · subst hk
        exact wt_x kk
      · exact ih _ _ _ _ _ _ (by omega) (by omega) kk
    · have c3b := jcmpL_leN c3
      refine ev_lload rfl ?_
      refine ev_goto f353_130 ?_
      refine ev_lstore (L' := [(2, 42), (0, of), (0, court), (0, what), (0, day), (0, many), (1, (1000000 * court)), (9, 0), (1, (1000000 * court)), (9, 0), (0, k), (1, 0), (9, 0), (1, 0), (9, 0)]) (Nat.le_of_ble_eq_true rfl) rfl ?_
      refine ev_aload_n rfl ?_
      refine ev_getf (r := 42) (v := 75) (hF.1.lt (by decide)) (hF.1.fam (by decide) (by decide)) ft12_57 ((hF.v rfl)) ?_
      refine ev_iload rfl ?_
      refine ev_iald (r := 75) (j := (k).toNat) (v := 0) (hF.1.lt (by decide)) (hF.1.sh (by decide) rfl).1 (by omega) (hF.1.inbx (by decide) (n := 20) (by decide) (by omega)) (hF.uni (n := 20) (by decide) (by omega)) ?_
      refine ev_i2l ?_
      refine ev_lload rfl ?_
      refine ev_lmul (r := 0) (by decide) ?_
      refine ev_bipush ?_
      refine ev_aload_n rfl ?_
      refine ev_getf (r := 42) (v := 75) (hF.1.lt (by decide)) (hF.1.fam (by decide) (by decide)) ft12_57 ((hF.v rfl)) ?_
      refine ev_iload rfl ?_
      refine ev_iald (r := 75) (j := (k).toNat) (v := 0) (hF.1.lt (by decide)) (hF.1.sh (by decide) rfl).1 (by omega) (hF.1.inbx (by decide) (n := 20) (by decide) (by omega)) (hF.uni (n := 20) (by decide) (by omega)) ?_
      refine ev_isub (r := 100) (by decide) ?_
      refine ev_i2l ?_
      refine ev_lload rfl ?_
      refine ev_lmul (r := (100000000 * court)) (by unfold w64; omega) ?_
      refine ev_ladd (r := (100000000 * court)) (by unfold w64; omega) ?_
      refine ev_ldc2_w ?_
      refine ev_call (jcall_s (A := [(1, 100), (1, (100000000 * court))]) (S' := []) (by decide) rfl (Nat.le_of_ble_eq_true rfl)) (jOk_le (by decide) (fd_e (q := (1000000 * court)) (by omega) (by decide) (by omega) (by omega))) (by decide) (by decide) (fun v h' q => ?_)
      obtain ⟨rfl, rfl⟩ := q
      show jEv _ _ _ _ _ _ _ (_, [(2, 42), (0, of), (0, court), (0, what), (0, day), (0, many), (1, (1000000 * court)), (9, 0), (1, (1000000 * court)), (9, 0), (0, k), (1, 0), (9, 0), (1, 0), (9, 0)], [(1, (1000000 * court))], _, _, _)
      refine ev_lstore (L' := [(2, 42), (0, of), (0, court), (0, what), (0, day), (0, many), (1, (1000000 * court)), (9, 0), (1, (1000000 * court)), (9, 0), (0, k), (1, 0), (9, 0), (1, 0), (9, 0)]) (Nat.le_of_ble_eq_true rfl) rfl ?_
      refine ev_iinc (w := (k - 1)) (L' := [(2, 42), (0, of), (0, court), (0, what), (0, day), (0, many), (1, (1000000 * court)), (9, 0), (1, (1000000 * court)), (9, 0), (0, (k - 1)), (1, 0), (9, 0), (1, 0), (9, 0)]) rfl (by unfold w32; omega) rfl ?_
      refine ev_goto f353_77 ?_
      rcases (show k = day ∨ day < k by omega) with hk | hk
      · subst hk
        exact wt_x kk
      · exact ih _ _ _ _ _ _ (by omega) (by omega) kk
