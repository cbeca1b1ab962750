/-! 23 addWay -/
set_option maxHeartbeats 4000000 in
theorem s23 {G : GH} {h : JH} (g : Gd G h) {r0 : Nat} {m0 : Int} (q0 : IsQ G r0 m0) {a1 : Int} (la1 : (-2147483648) ≤ a1) (ua1 : a1 ≤ 2147483647) {a2 : Int} (la2 : (-2147483648) ≤ a2) (ua2 : a2 ≤ 2147483647) {a3 : Int} (la3 : (-2147483648) ≤ a3) (ua3 : a3 ≤ 2147483647) : jOk 2 0 0 23 [(2, (r0 : Int)), (0, a1), (0, a2), (0, a3)] h (PV G [(1000000, 0)] h) := by
  refine ⟨by decide, by rw [ml23]; exact Nat.le_of_ble_eq_true rfl, ?_⟩
  rw [ml23, pp23]
  show jEv _ none _ c23_0 0 0 _ (c23_0, [(2, (r0 : Int)), (0, a1), (0, a2), (0, a3)], [], h, 0, 0)
  have k0 := Kp.rf [(1000000, 0)] h
  have wr0 := g.qb q0
  have zr0 := q0.1
  refine ev_aload_n rfl ?_
  refine ev_iload_n rfl ?_
  refine ev_in (d := 0) (a := 0) (b := 0) (cd' := c24_0) (m := 2) (L0 := [(2, (r0 : Int)), (0, a1)]) (jcall_v (A := [(0, a1)]) (S' := []) (r := r0) rfl (g.qlt q0) (g.qtg q0) (Nat.le_of_ble_eq_true rfl)) (by decide) ml24 pp24 (Nat.le_of_ble_eq_true rfl) rfl (by decide) (by decide) ?_
  refine ev_iload_n rfl ?_
  refine ev_iflt f24_16 (fun c6400 => ?_) (fun c6400 => ?_)
  · refine ev_iconst ?_
    refine ev_ret rfl (by decide) (by decide) ?_
    show jEv _ _ _ _ _ _ _ (_, [(2, (r0 : Int)), (0, a1), (0, a2), (0, a3)], [(0, 0)], _, _, _)
    refine ev_ifeq f23_68 (fun c6401 => ?_) (fun c6401 => absurd c6401 (by omega))
    exact ev_ret rfl (by decide) (by decide) ⟨rfl, g, k0⟩
  · refine ev_iload_n rfl ?_
    refine ev_aload_n rfl ?_
    obtain ⟨v6402, ev6402, lv6402, uv6402⟩ := g.q0 q0
    refine g_qgetv (v := v6402) g q0 ft4_0 ev6402 ?_
    refine ev_icmpge f24_16 (fun c6403 => ?_) (fun c6403 => ?_)
    · refine ev_iconst ?_
      refine ev_ret rfl (by decide) (by decide) ?_
      show jEv _ _ _ _ _ _ _ (_, [(2, (r0 : Int)), (0, a1), (0, a2), (0, a3)], [(0, 0)], _, _, _)
      refine ev_ifeq f23_68 (fun c6404 => ?_) (fun c6404 => absurd c6404 (by omega))
      exact ev_ret rfl (by decide) (by decide) ⟨rfl, g, k0⟩
    · refine ev_iconst ?_
      refine ev_goto f24_17 ?_
      refine ev_ret rfl (by decide) (by decide) ?_
      show jEv _ _ _ _ _ _ _ (_, [(2, (r0 : Int)), (0, a1), (0, a2), (0, a3)], [(0, 1)], _, _, _)
      refine ev_ifeq f23_68 (fun c6405 => absurd c6405 (by omega)) (fun c6405 => ?_)
      refine ev_aload_n rfl ?_
      refine ev_iload_n rfl ?_
      refine ev_in (d := 0) (a := 0) (b := 0) (cd' := c24_0) (m := 2) (L0 := [(2, (r0 : Int)), (0, a3)]) (jcall_v (A := [(0, a3)]) (S' := []) (r := r0) rfl (g.qlt q0) (g.qtg q0) (Nat.le_of_ble_eq_true rfl)) (by decide) ml24 pp24 (Nat.le_of_ble_eq_true rfl) rfl (by decide) (by decide) ?_
      refine ev_iload_n rfl ?_
      refine ev_iflt f24_16 (fun c6406 => ?_) (fun c6406 => ?_)
      · refine ev_iconst ?_
        refine ev_ret rfl (by decide) (by decide) ?_
        show jEv _ _ _ _ _ _ _ (_, [(2, (r0 : Int)), (0, a1), (0, a2), (0, a3)], [(0, 0)], _, _, _)
        refine ev_ifeq f23_68 (fun c6407 => ?_) (fun c6407 => absurd c6407 (by omega))
        exact ev_ret rfl (by decide) (by decide) ⟨rfl, g, k0⟩
      · refine ev_iload_n rfl ?_
        refine ev_aload_n rfl ?_
        refine g_qgetv (v := v6402) g q0 ft4_0 (ev6402) ?_
        refine ev_icmpge f24_16 (fun c6408 => ?_) (fun c6408 => ?_)
        · refine ev_iconst ?_
          refine ev_ret rfl (by decide) (by decide) ?_
          show jEv _ _ _ _ _ _ _ (_, [(2, (r0 : Int)), (0, a1), (0, a2), (0, a3)], [(0, 0)], _, _, _)
          refine ev_ifeq f23_68 (fun c6409 => ?_) (fun c6409 => absurd c6409 (by omega))
          exact ev_ret rfl (by decide) (by decide) ⟨rfl, g, k0⟩
        · refine ev_iconst ?_
          refine ev_goto f24_17 ?_
          refine ev_ret rfl (by decide) (by decide) ?_
          show jEv _ _ _ _ _ _ _ (_, [(2, (r0 : Int)), (0, a1), (0, a2), (0, a3)], [(0, 1)], _, _, _)
          refine ev_ifeq f23_68 (fun c6410 => absurd c6410 (by omega)) (fun c6410 => ?_)
          refine ev_aload_n rfl ?_
          refine g_qgetp g q0 (c := 4) (by decide) (by decide) ft4_4 ?_
          refine ev_iload_n rfl ?_
          refine g_qiald g q0 (c := 4) (by decide) (by decide) (by decide) (by omega) (by show a1 < m0; omega) rfl (fun v6411 ev6411 lv6411 uv6411 => ?_)
          refine ev_iconst ?_
          refine ev_icmpge f23_68 (fun c6412 => ?_) (fun c6412 => ?_)
          · exact ev_ret rfl (by decide) (by decide) ⟨rfl, g, k0⟩
          · refine ev_aload_n rfl ?_
            refine g_qgetp g q0 (c := 5) (by decide) (by decide) ft4_5 ?_
            refine ev_iconst ?_
            refine ev_iload_n rfl ?_
            refine ev_imul (r := (4 * a1)) (by unfold w32; omega) ?_
            refine ev_aload_n rfl ?_
            refine g_qgetp g q0 (c := 4) (by decide) (by decide) ft4_4 ?_
            refine ev_iload_n rfl ?_
            refine g_qialdv (v := v6411) g q0 (c := 4) (by decide) (by decide) (by decide) (by omega) (by show a1 < m0; omega) (ev6411) ?_
            refine ev_iadd (r := (4 * a1 + v6411)) (by unfold w32; omega) ?_
            refine ev_iload_n rfl ?_
            refine g_qiast g q0 (c := 5) (by decide) (by decide) (by decide) (by omega) (by show (4 * a1 + v6411) < 4 * m0; omega) rfl (by omega) (by omega) (fun h6413 e6413 g6413 => ?_)
            have k6413 := k0.wr e6413 (inW_dyn rfl (by have := q0.1; omega))
            refine ev_aload_n rfl ?_
            refine g_qgetp g6413 q0 (c := 6) (by decide) (by decide) ft4_6 ?_
            refine ev_iconst ?_
            refine ev_iload_n rfl ?_
            refine ev_imul (r := (4 * a1)) (by unfold w32; omega) ?_
            refine ev_aload_n rfl ?_
            refine g_qgetp g6413 q0 (c := 4) (by decide) (by decide) ft4_4 ?_
            refine ev_iload_n rfl ?_
            refine g_qialdv (v := v6411) g6413 q0 (c := 4) (by decide) (by decide) (by decide) (by omega) (by show a1 < m0; omega) (((jw_ne e6413 (Or.inl (by omega))).trans ev6411)) ?_
            refine ev_iadd (r := (4 * a1 + v6411)) (by unfold w32; omega) ?_
            refine ev_iload_n rfl ?_
            refine g_qiast g6413 q0 (c := 6) (by decide) (by decide) (by decide) (by omega) (by show (4 * a1 + v6411) < 4 * m0; omega) rfl (by omega) (by omega) (fun h6414 e6414 g6414 => ?_)
            have k6414 := k6413.wr e6414 (inW_dyn rfl (by have := q0.1; omega))
            refine ev_aload_n rfl ?_
            refine g_qgetp g6414 q0 (c := 4) (by decide) (by decide) ft4_4 ?_
            refine ev_iload_n rfl ?_
            refine ev_dup2 (by decide) (by decide) ?_
            refine g_qialdv (v := v6411) g6414 q0 (c := 4) (by decide) (by decide) (by decide) (by omega) (by show a1 < m0; omega) (((jw_ne e6414 (Or.inl (by omega))).trans ((jw_ne e6413 (Or.inl (by omega))).trans ev6411))) ?_
            refine ev_iconst ?_
            refine ev_iadd (r := (v6411 + 1)) (by unfold w32; omega) ?_
            refine g_qiast g6414 q0 (c := 4) (by decide) (by decide) (by decide) (by omega) (by show a1 < m0; omega) rfl (by omega) (by omega) (fun h6415 e6415 g6415 => ?_)
            have k6415 := k6414.wr e6415 (inW_dyn rfl (by have := q0.1; omega))
            exact ev_ret rfl (by decide) (by decide) ⟨rfl, g6415, k6415⟩
/-! 39 judgePicks -/
set_option maxHeartbeats 4000000 in
theorem s39 {G : GH} {h : JH} (g : Gd G h) {r0 : Nat} {m0 : Int} (q0 : IsQ G r0 m0) : jOk 1 0 0 39 [(2, (r0 : Int))] h (PV G [(1000000, 0)] h) := by
  refine ⟨by decide, by rw [ml39]; exact Nat.le_of_ble_eq_true rfl, ?_⟩
  rw [ml39, pp39]
  show jEv _ none _ c39_0 0 0 _ (c39_0, [(2, (r0 : Int))], [], h, 0, 0)
  have k0 := Kp.rf [(1000000, 0)] h
  have wr0 := g.qb q0
  have zr0 := q0.1
  refine ev_aload_n rfl ?_
  refine g_qgetp g q0 (c := 10) (by decide) (by decide) ft4_10 ?_
  refine ev_iconst ?_
  refine ev_aload_n rfl ?_
  refine g_qgetp g q0 (c := 9) (by decide) (by decide) ft4_9 ?_
  refine ev_iconst ?_
  refine ev_aload_n rfl ?_
  obtain ⟨v6420, ev6420, lv6420, uv6420⟩ := g.q0 q0
  refine g_qgetv (v := v6420) g q0 ft4_0 ev6420 ?_
  refine g_copyQ g q0 (c := 10) (c' := 9) (by decide) (by decide) (by decide) (by decide) rfl rfl rfl (by omega) (by omega) (by omega) (by show 0 + v6420 ≤ m0; omega) (by show 0 + v6420 ≤ m0; omega) (Nat.le_of_ble_eq_true rfl) (fun h6421 g6421 kk6421 => ?_)
  have k6421 := k0.tr kk6421 (by decide)
  exact ev_ret rfl (by decide) (by decide) ⟨rfl, g6421, k6421⟩
/-! 40 packPicks -/
set_option maxHeartbeats 4000000 in
theorem s40_l {G : GH} {h : JH} {r0 : Nat} {m0 : Int} (q0 : IsQ G r0 m0) {a2 : Int} (la2 : 0 ≤ a2) (ua2 : a2 ≤ 392) : ∀ N : Nat, (∀ (h1 : JH) (x3 : Int), Gd G h1 → Kp [(40, 0)] h h1 → 0 ≤ a2 → a2 ≤ 392 → 0 ≤ x3 → x3 ≤ 4 → ((-x3) + 105) < N → jEv (jOk 0) none (fun _ => 0) c40_0 0 0 (PV G [(40, 0)] h) (c40_2, [(2, (r0 : Int)), (2, 40), (0, a2), (0, x3)], [], h1, 0, 0)) ∧ (∀ (h1 : JH) (x3 : Int), Gd G h1 → Kp [(40, 0)] h h1 → 0 ≤ a2 → a2 ≤ 392 → 0 ≤ x3 → x3 ≤ 100 → ((-x3) + 100) < N → jEv (jOk 0) none (fun _ => 0) c40_0 0 0 (PV G [(40, 0)] h) (c40_21, [(2, (r0 : Int)), (2, 40), (0, a2), (0, x3)], [], h1, 0, 0)) := by
  intro N
  induction N with
  | zero => exact ⟨fun h1 x3 g1 k1 b0 b1 b2 b3 hm => absurd hm (by omega), fun h1 x3 g1 k1 b0 b1 b2 b3 hm => absurd hm (by omega)⟩
  | succ N ih =>
    refine ⟨?_, ?_⟩
    · intro h1 x3 g1 k1 b0 b1 b2 b3 hm
      have wr0 := g1.qb q0
      have zr0 := q0.1
      refine ev_iload_n rfl ?_
      refine ev_iconst ?_
      refine ev_icmpge f40_19 (fun c6783 => ?_) (fun c6783 => ?_)
      · refine ev_iconst ?_
        refine ev_istore_n (L' := [(2, (r0 : Int)), (2, 40), (0, a2), (0, 0)]) (Nat.le_of_ble_eq_true rfl) rfl ?_
        exact ih.2 _ _ g1 k1 (by omega) (by omega) (by omega) (by omega) (by omega)
      · refine ev_aload_n rfl ?_
        refine ev_iload_n rfl ?_
        refine ev_iload_n rfl ?_
        refine ev_iadd (r := (a2 + x3)) (by unfold w32; omega) ?_
        refine ev_lconst ?_
        refine g_last g1 ad40 rt40 (fun _ => rfl) (by omega) (by omega) (by omega) (by omega) (fun h6784 e6784 g6784 => ?_)
        have k6784 := k1.wr e6784 rfl
        refine ev_iinc (w := (x3 + 1)) (L' := [(2, (r0 : Int)), (2, 40), (0, a2), (0, (x3 + 1))]) rfl (by unfold w32; omega) rfl ?_
        refine ev_goto f40_2 ?_
        exact ih.1 _ _ g6784 k6784 (by omega) (by omega) (by omega) (by omega) (by omega)
    · intro h1 x3 g1 k1 b0 b1 b2 b3 hm
      have wr0 := g1.qb q0
      have zr0 := q0.1
      refine ev_iload_n rfl ?_
      refine ev_aload_n rfl ?_
      obtain ⟨v6785, ev6785, lv6785, uv6785⟩ := g1.q0 q0
      refine g_qgetv (v := v6785) g1 q0 ft4_0 ev6785 ?_
      refine ev_icmpge f40_60 (fun c6786 => ?_) (fun c6786 => ?_)
      · exact ev_ret rfl (by decide) (by decide) ⟨rfl, g1, k1⟩
      · refine ev_aload_n rfl ?_
        refine ev_iload_n rfl ?_
        refine ev_iload_n rfl ?_
        refine ev_bipush ?_
        refine g_idivP (c := 32) rfl (by decide) (by omega) (by omega) (fun v6787 ev6787 lv6787 uv6787 => ?_)
        refine ev_iadd (r := (a2 + v6787)) (by unfold w32; omega) ?_
        refine ev_dup2 (by decide) (by decide) ?_
        refine g_lald g1 ad40 rt40 (by omega) (by omega) (fun v6788 ev6788 lv6788 uv6788 => ?_)
        refine ev_aload_n rfl ?_
        refine g_qgetp g1 q0 (c := 10) (by decide) (by decide) ft4_10 ?_
        refine ev_iload_n rfl ?_
        refine g_qiald g1 q0 (c := 10) (by decide) (by decide) (by decide) (by omega) (by show x3 < m0; omega) rfl (fun v6789 ev6789 lv6789 uv6789 => ?_)
        refine ev_i2l ?_
        refine ev_iconst ?_
        refine ev_iload_n rfl ?_
        refine ev_bipush ?_
        refine g_iremP (c := 32) rfl (by decide) (by omega) (fun v6790 ev6790 lv6790 uv6790 wv6790 => ?_)
        refine ev_imul (r := (2 * v6790)) (by unfold w32; omega) ?_
        refine g_lshlG (fun v6791 ev6791 lv6791 uv6791 => ?_)
        refine g_lorG (fun v6792 ev6792 lv6792 uv6792 => ?_)
        refine g_last g1 ad40 rt40 (fun _ => rfl) (by omega) (by omega) (by omega) (by omega) (fun h6793 e6793 g6793 => ?_)
        have k6793 := k1.wr e6793 rfl
        refine ev_iinc (w := (x3 + 1)) (L' := [(2, (r0 : Int)), (2, 40), (0, a2), (0, (x3 + 1))]) rfl (by unfold w32; omega) rfl ?_
        refine ev_goto f40_21 ?_
        exact ih.2 _ _ g6793 k6793 (by omega) (by omega) (by omega) (by omega) (by omega)
set_option maxHeartbeats 4000000 in
theorem s40 {G : GH} {h : JH} (g : Gd G h) {r0 : Nat} {m0 : Int} (q0 : IsQ G r0 m0) {a2 : Int} (la2 : 0 ≤ a2) (ua2 : a2 ≤ 392) : jOk 1 0 0 40 [(2, (r0 : Int)), (2, 40), (0, a2)] h (PV G [(40, 0)] h) := by
  refine ⟨by decide, by rw [ml40]; exact Nat.le_of_ble_eq_true rfl, ?_⟩
  rw [ml40, pp40]
  show jEv _ none _ c40_0 0 0 _ (c40_0, [(2, (r0 : Int)), (2, 40), (0, a2), (9, 0)], [], h, 0, 0)
  have k0 := Kp.rf [(40, 0)] h
  have wr0 := g.qb q0
  have zr0 := q0.1
  refine ev_iconst ?_
  refine ev_istore_n (L' := [(2, (r0 : Int)), (2, 40), (0, a2), (0, 0)]) (Nat.le_of_ble_eq_true rfl) rfl ?_
  exact (s40_l q0 la2 ua2 303).1 _ _ g k0 (by omega) (by omega) (by omega) (by omega) (by omega)
/-! 41 judgePacked -/
set_option maxHeartbeats 4000000 in
theorem s41_l {G : GH} {h : JH} {r0 : Nat} {m0 : Int} (q0 : IsQ G r0 m0) {a2 : Int} (la2 : 0 ≤ a2) (ua2 : a2 ≤ 392) : ∀ N : Nat, (∀ (h1 : JH) (x3 : Int), Gd G h1 → Kp [(1000000, 0)] h h1 → 0 ≤ a2 → a2 ≤ 392 → 0 ≤ x3 → x3 ≤ 100 → ((-x3) + 100) < N → jEv (jOk 0) none (fun _ => 0) c41_0 0 0 (PV G [(1000000, 0)] h) (c41_2, [(2, (r0 : Int)), (2, 40), (0, a2), (0, x3)], [], h1, 0, 0)) := by
  intro N
  induction N with
  | zero => exact fun h1 x3 g1 k1 b0 b1 b2 b3 hm => absurd hm (by omega)
  | succ N ih =>
    show _
    intro h1 x3 g1 k1 b0 b1 b2 b3 hm
    have wr0 := g1.qb q0
    have zr0 := q0.1
    refine ev_iload_n rfl ?_
    refine ev_aload_n rfl ?_
    obtain ⟨v7104, ev7104, lv7104, uv7104⟩ := g1.q0 q0
    refine g_qgetv (v := v7104) g1 q0 ft4_0 ev7104 ?_
    refine ev_icmpge f41_42 (fun c7105 => ?_) (fun c7105 => ?_)
    · exact ev_ret rfl (by decide) (by decide) ⟨rfl, g1, k1⟩
    · refine ev_aload_n rfl ?_
      refine g_qgetp g1 q0 (c := 9) (by decide) (by decide) ft4_9 ?_
      refine ev_iload_n rfl ?_
      refine ev_aload_n rfl ?_
      refine ev_iload_n rfl ?_
      refine ev_iload_n rfl ?_
      refine ev_bipush ?_
      refine g_idivP (c := 32) rfl (by decide) (by omega) (by omega) (fun v7106 ev7106 lv7106 uv7106 => ?_)
      refine ev_iadd (r := (a2 + v7106)) (by unfold w32; omega) ?_
      refine g_lald g1 ad40 rt40 (by omega) (by omega) (fun v7107 ev7107 lv7107 uv7107 => ?_)
      refine ev_iconst ?_
      refine ev_iload_n rfl ?_
      refine ev_bipush ?_
      refine g_iremP (c := 32) rfl (by decide) (by omega) (fun v7108 ev7108 lv7108 uv7108 wv7108 => ?_)
      refine ev_imul (r := (2 * v7108)) (by unfold w32; omega) ?_
      refine g_lushrG (fun v7109 ev7109 lv7109 uv7109 => ?_)
      refine ev_ldc2_w ?_
      refine g_landB (b := 3) rfl (by decide) (fun v7110 ev7110 lv7110 uv7110 => ?_)
      refine ev_l2i (r := v7110) (by unfold w32; omega) ?_
      refine g_qiast g1 q0 (c := 9) (by decide) (by decide) (by decide) (by omega) (by show x3 < m0; omega) rfl (by omega) (by omega) (fun h7111 e7111 g7111 => ?_)
      have k7111 := k1.wr e7111 (inW_dyn rfl (by have := q0.1; omega))
      refine ev_iinc (w := (x3 + 1)) (L' := [(2, (r0 : Int)), (2, 40), (0, a2), (0, (x3 + 1))]) rfl (by unfold w32; omega) rfl ?_
      refine ev_goto f41_2 ?_
      exact ih _ _ g7111 k7111 (by omega) (by omega) (by omega) (by omega) (by omega)
set_option maxHeartbeats 4000000 in
theorem s41 {G : GH} {h : JH} (g : Gd G h) {r0 : Nat} {m0 : Int} (q0 : IsQ G r0 m0) {a2 : Int} (la2 : 0 ≤ a2) (ua2 : a2 ≤ 392) : jOk 1 0 0 41 [(2, (r0 : Int)), (2, 40), (0, a2)] h (PV G [(1000000, 0)] h) := by
  refine ⟨by decide, by rw [ml41]; exact Nat.le_of_ble_eq_true rfl, ?_⟩
  rw [ml41, pp41]
  show jEv _ none _ c41_0 0 0 _ (c41_0, [(2, (r0 : Int)), (2, 40), (0, a2), (9, 0)], [], h, 0, 0)
  have k0 := Kp.rf [(1000000, 0)] h
  have wr0 := g.qb q0
  have zr0 := q0.1
  refine ev_iconst ?_
  refine ev_istore_n (L' := [(2, (r0 : Int)), (2, 40), (0, a2), (0, 0)]) (Nat.le_of_ble_eq_true rfl) rfl ?_
  exact (s41_l q0 la2 ua2 202) _ _ g k0 (by omega) (by omega) (by omega) (by omega) (by omega)
/-! 42 price -/
set_option maxHeartbeats 4000000 in
theorem s42_l {G : GH} {h : JH} {r0 : Nat} {m0 : Int} (q0 : IsQ G r0 m0) : ∀ N : Nat, (∀ (h1 : JH) (x1 : Int) (j2 : AV), Gd G h1 → Kp [(1000000, 0)] h h1 → 0 ≤ x1 → x1 ≤ 100 → ((-10) * x1 + 1005) < N → jEv (jOk 1) none (fun _ => 0) c42_0 0 0 (PV G [(1000000, 0)] h) (c42_9, [(2, (r0 : Int)), (0, x1), j2], [], h1, 0, 0)) ∧ (∀ (h1 : JH) (x1 x2 : Int), Gd G h1 → Kp [(1000000, 0)] h h1 → 0 ≤ x1 → x1 ≤ 99 → x1 ≤ m0 - 1 → 0 ≤ x2 → x2 ≤ 4 → ((-10) * x1 + (-x2) + 1004) < N → jEv (jOk 1) none (fun _ => 0) c42_0 0 0 (PV G [(1000000, 0)] h) (c42_19, [(2, (r0 : Int)), (0, x1), (0, x2)], [], h1, 0, 0)) := by
  intro N
  induction N with
  | zero => exact ⟨fun h1 x1 j2 g1 k1 b0 b1 hm => absurd hm (by omega), fun h1 x1 x2 g1 k1 b0 b1 b2 b3 b4 hm => absurd hm (by omega)⟩
  | succ N ih =>
    refine ⟨?_, ?_⟩
    · intro h1 x1 j2 g1 k1 b0 b1 hm
      have wr0 := g1.qb q0
      have zr0 := q0.1
      refine ev_iload_n rfl ?_
      refine ev_aload_n rfl ?_
      obtain ⟨v7458, ev7458, lv7458, uv7458⟩ := g1.q0 q0
      refine g_qgetv (v := v7458) g1 q0 ft4_0 ev7458 ?_
      refine ev_icmpge f42_65 (fun c7459 => ?_) (fun c7459 => ?_)
      · exact ev_ret rfl (by decide) (by decide) ⟨rfl, g1, k1⟩
      · refine ev_iconst ?_
        refine ev_istore_n (L' := [(2, (r0 : Int)), (0, x1), (0, 0)]) (Nat.le_of_ble_eq_true rfl) rfl ?_
        exact ih.2 _ _ _ g1 k1 (by omega) (by omega) (by omega) (by omega) (by omega) (by omega)
    · intro h1 x1 x2 g1 k1 b0 b1 b2 b3 b4 hm
      have wr0 := g1.qb q0
      have zr0 := q0.1
      refine ev_iload_n rfl ?_
      refine ev_aload_n rfl ?_
      refine g_qgetp g1 q0 (c := 4) (by decide) (by decide) ft4_4 ?_
      refine ev_iload_n rfl ?_
      refine g_qiald g1 q0 (c := 4) (by decide) (by decide) (by decide) (by omega) (by show x1 < m0; omega) rfl (fun v7460 ev7460 lv7460 uv7460 => ?_)
      refine ev_icmpge f42_59 (fun c7461 => ?_) (fun c7461 => ?_)
      · refine ev_iinc (w := (x1 + 1)) (L' := [(2, (r0 : Int)), (0, (x1 + 1)), (0, x2)]) rfl (by unfold w32; omega) rfl ?_
        refine ev_goto f42_9 ?_
        exact ih.1 _ _ _ g1 k1 (by omega) (by omega) (by omega)
      · refine ev_aload_n rfl ?_
        refine g_qgetp g1 q0 (c := 11) (by decide) (by decide) ft4_11 ?_
        refine ev_aload_n rfl ?_
        refine ev_iload_n rfl ?_
        refine ev_iload_n rfl ?_
        refine ev_in (d := 0) (a := 0) (b := 0) (cd' := c30_0) (m := 3) (L0 := [(2, (r0 : Int)), (0, x1), (0, x2)]) (jcall_v (A := [(0, x2), (0, x1)]) (S' := [(2, ((r0 + 10 : Nat) : Int))]) (r := r0) rfl (g1.qlt q0) (g1.qtg q0) (Nat.le_of_ble_eq_true rfl)) (by decide) ml30 pp30 (Nat.le_of_ble_eq_true rfl) rfl (by decide) (by decide) ?_
        refine ev_aload_n rfl ?_
        refine g_qgetp g1 q0 (c := 5) (by decide) (by decide) ft4_5 ?_
        refine ev_iconst ?_
        refine ev_iload_n rfl ?_
        refine ev_imul (r := (4 * x1)) (by unfold w32; omega) ?_
        refine ev_iload_n rfl ?_
        refine ev_iadd (r := (4 * x1 + x2)) (by unfold w32; omega) ?_
        refine g_qiald g1 q0 (c := 5) (by decide) (by decide) (by decide) (by omega) (by show (4 * x1 + x2) < 4 * m0; omega) rfl (fun v7462 ev7462 lv7462 uv7462 => ?_)
        refine ev_ret rfl (by decide) (by decide) ?_
        show jEv _ _ _ _ _ _ _ (_, [(2, (r0 : Int)), (0, x1), (0, x2)], [(0, v7462), (2, ((r0 + 10 : Nat) : Int))], _, _, _)
        refine ev_aload_n rfl ?_
        refine g_qgetp g1 q0 (c := 11) (by decide) (by decide) ft4_11 ?_
        refine ev_iload_n rfl ?_
        refine g_qiald g1 q0 (c := 11) (by decide) (by decide) (by decide) (by omega) (by show x1 < m0; omega) rfl (fun v7463 ev7463 lv7463 uv7463 => ?_)
        refine ev_aload_n rfl ?_
        refine ev_iload_n rfl ?_
        refine ev_iload_n rfl ?_
        refine ev_in (d := 0) (a := 0) (b := 0) (cd' := c31_0) (m := 3) (L0 := [(2, (r0 : Int)), (0, x1), (0, x2)]) (jcall_v (A := [(0, x2), (0, x1)]) (S' := [(0, v7463), (0, v7462), (2, ((r0 + 10 : Nat) : Int))]) (r := r0) rfl (g1.qlt q0) (g1.qtg q0) (Nat.le_of_ble_eq_true rfl)) (by decide) ml31 pp31 (Nat.le_of_ble_eq_true rfl) rfl (by decide) (by decide) ?_
        refine ev_aload_n rfl ?_
        refine g_qgetp g1 q0 (c := 6) (by decide) (by decide) ft4_6 ?_
        refine ev_iconst ?_
        refine ev_iload_n rfl ?_
        refine ev_imul (r := (4 * x1)) (by unfold w32; omega) ?_
        refine ev_iload_n rfl ?_
        refine ev_iadd (r := (4 * x1 + x2)) (by unfold w32; omega) ?_
        refine g_qiald g1 q0 (c := 6) (by decide) (by decide) (by decide) (by omega) (by show (4 * x1 + x2) < 4 * m0; omega) rfl (fun v7464 ev7464 lv7464 uv7464 => ?_)
        refine ev_ret rfl (by decide) (by decide) ?_
        show jEv _ _ _ _ _ _ _ (_, [(2, (r0 : Int)), (0, x1), (0, x2)], [(0, v7464), (0, v7463), (0, v7462), (2, ((r0 + 10 : Nat) : Int))], _, _, _)
        refine g_iaddG (fun v7465 ev7465 lv7465 uv7465 => ?_)
        refine g_qiast g1 q0 (c := 11) (by decide) (by decide) (by decide) (by omega) (by show v7462 < m0; omega) rfl (by omega) (by omega) (fun h7466 e7466 g7466 => ?_)
        have k7466 := k1.wr e7466 (inW_dyn rfl (by have := q0.1; omega))
        refine ev_iinc (w := (x2 + 1)) (L' := [(2, (r0 : Int)), (0, x1), (0, (x2 + 1))]) rfl (by unfold w32; omega) rfl ?_
        refine ev_goto f42_19 ?_
        exact ih.2 _ _ _ g7466 k7466 (by omega) (by omega) (by omega) (by omega) (by omega) (by omega)
set_option maxHeartbeats 4000000 in
theorem s42 {G : GH} {h : JH} (g : Gd G h) {r0 : Nat} {m0 : Int} (q0 : IsQ G r0 m0) : jOk 2 0 0 42 [(2, (r0 : Int))] h (PV G [(1000000, 0)] h) := by
  refine ⟨by decide, by rw [ml42]; exact Nat.le_of_ble_eq_true rfl, ?_⟩
  rw [ml42, pp42]
  show jEv _ none _ c42_0 0 0 _ (c42_0, [(2, (r0 : Int)), (9, 0), (9, 0)], [], h, 0, 0)
  have k0 := Kp.rf [(1000000, 0)] h
  have wr0 := g.qb q0
  have zr0 := q0.1
  refine ev_aload_n rfl ?_
  refine g_qgetp g q0 (c := 11) (by decide) (by decide) ft4_11 ?_
  refine ev_iconst ?_
  refine ev_iconst ?_
  refine g_qiast g q0 (c := 11) (by decide) (by decide) (by decide) (by omega) (by show 0 < m0; omega) rfl (by omega) (by omega) (fun h7467 e7467 g7467 => ?_)
  have k7467 := k0.wr e7467 (inW_dyn rfl (by have := q0.1; omega))
  refine ev_iconst ?_
  refine ev_istore_n (L' := [(2, (r0 : Int)), (0, 0), (9, 0)]) (Nat.le_of_ble_eq_true rfl) rfl ?_
  exact (s42_l q0 2020).1 _ _ _ g7467 k7467 (by omega) (by omega) (by omega)
/-! 43 weighEnds -/
set_option maxHeartbeats 4000000 in
theorem s43_l {G : GH} {h : JH} {r0 : Nat} {m0 : Int} (q0 : IsQ G r0 m0) {f2 : Nat} (q2 : IsF G f2) {a3 : Int} (la3 : (-2147483648) ≤ a3) (ua3 : a3 ≤ 2147483647) : ∀ N : Nat, (∀ (h1 : JH) (x4 x5 : Int) (j6 : AV), Gd G h1 → Kp [(1000000, 0)] h h1 → (-2147483648) ≤ a3 → a3 ≤ 2147483647 → 0 ≤ x4 → x4 ≤ 1 → x4 ≤ m0 → 0 ≤ x5 → x5 ≤ 100 → ((-x5) + 100) < N → jEv (jOk 3) none (fun _ => 0) c43_0 0 0 (PV G [(1000000, 0)] h) (c43_13, [(2, (r0 : Int)), (2, 1), (2, (f2 : Int)), (0, a3), (0, x4), (0, x5), j6, (9, 0)], [], h1, 0, 0)) := by
  intro N
  induction N with
  | zero => exact fun h1 x4 x5 j6 g1 k1 b0 b1 b2 b3 b4 b5 b6 hm => absurd hm (by omega)
  | succ N ih =>
    show _
    intro h1 x4 x5 j6 g1 k1 b0 b1 b2 b3 b4 b5 b6 hm
    have wr0 := g1.qb q0
    have zr0 := q0.1
    refine ev_iload rfl ?_
    refine ev_aload_n rfl ?_
    obtain ⟨v9541, ev9541, lv9541, uv9541⟩ := g1.q0 q0
    refine g_qgetv (v := v9541) g1 q0 ft4_0 ev9541 ?_
    refine ev_icmpge f43_91 (fun c9542 => ?_) (fun c9542 => ?_)
    · exact ev_ret rfl (by decide) (by decide) ⟨rfl, g1, k1⟩
    · refine ev_aload_n rfl ?_
      refine g_qgetp g1 q0 (c := 2) (by decide) (by decide) ft4_2 ?_
      refine ev_iload rfl ?_
      refine g_qiald g1 q0 (c := 2) (by decide) (by decide) (by decide) (by omega) (by show x5 < m0; omega) rfl (fun v9543 ev9543 lv9543 uv9543 => ?_)
      refine ev_ifne f43_85 (fun c9544 => ?_) (fun c9544 => ?_)
      · refine ev_iinc (w := (x5 + 1)) (L' := [(2, (r0 : Int)), (2, 1), (2, (f2 : Int)), (0, a3), (0, x4), (0, (x5 + 1)), j6, (9, 0)]) rfl (by unfold w32; omega) rfl ?_
        refine ev_goto f43_13 ?_
        exact ih _ _ _ _ g1 k1 (by omega) (by omega) (by omega) (by omega) (by omega) (by omega) (by omega) (by omega)
      · refine ev_iload rfl ?_
        refine ev_ifeq f43_41 (fun c9545 => ?_) (fun c9545 => ?_)
        · refine ev_aload_n rfl ?_
          refine ev_aload_n rfl ?_
          refine g_qgetp g1 q0 (c := 8) (by decide) (by decide) ft4_8 ?_
          refine ev_iload rfl ?_
          refine g_qiald g1 q0 (c := 8) (by decide) (by decide) (by decide) (by omega) (by show x5 < m0; omega) rfl (fun v9546 ev9546 lv9546 uv9546 => ?_)
          refine ev_iload_n rfl ?_
          refine ev_in (d := 2) (a := 0) (b := 0) (cd' := c163_0) (m := 3) (L0 := [(2, 1), (0, v9546), (0, a3)]) (jcall_v (A := [(0, a3), (0, v9546)]) (S' := []) (r := 1) rfl (g1.lt ad1) (g1.tg ad1) (Nat.le_of_ble_eq_true rfl)) (by decide) ml163 pp163 (Nat.le_of_ble_eq_true rfl) rfl (by decide) (by decide) ?_
          refine ev_iload_n rfl ?_
          refine ev_iload_n rfl ?_
          refine g_ixorG (fun v9547 ev9547 lv9547 uv9547 => ?_)
          refine ev_iload_n rfl ?_
          refine ev_in (d := 1) (a := 0) (b := 0) (cd' := c162_0) (m := 1) (L0 := [(0, v9546)]) (jcall_s (A := [(0, v9546)]) (S' := [(0, v9547)]) (by decide) rfl (Nat.le_of_ble_eq_true rfl)) (by decide) ml162 pp162 (Nat.le_of_ble_eq_true rfl) rfl (by decide) (by decide) ?_
          refine ev_iload_n rfl ?_
          refine ev_iload_n rfl ?_
          refine ev_iconst ?_
          refine g_ishrG (fun v9548 ev9548 lv9548 uv9548 => ?_)
          refine g_iorG (fun v9549 ev9549 lv9549 uv9549 => ?_)
          refine ev_bipush ?_
          refine g_iandB (b := 85) (by omega) (by omega) (by decide) (fun v9550 ev9550 lv9550 uv9550 => ?_)
          refine ev_iconst ?_
          refine ev_imul (r := (3 * v9550)) (by unfold w32; omega) ?_
          refine ev_ret rfl (by decide) (by decide) ?_
          show jEv _ _ _ _ _ _ _ (_, [(2, 1), (0, v9546), (0, a3)], [(0, (3 * v9550)), (0, v9547)], _, _, _)
          refine g_iandB (b := 255) (by omega) (by omega) (by decide) (fun v9551 ev9551 lv9551 uv9551 => ?_)
          refine ev_iload_n rfl ?_
          refine ev_in (d := 1) (a := 0) (b := 0) (cd' := c162_0) (m := 1) (L0 := [(0, a3)]) (jcall_s (A := [(0, a3)]) (S' := [(0, v9551)]) (by decide) rfl (Nat.le_of_ble_eq_true rfl)) (by decide) ml162 pp162 (Nat.le_of_ble_eq_true rfl) rfl (by decide) (by decide) ?_
          refine ev_iload_n rfl ?_
          refine ev_iload_n rfl ?_
          refine ev_iconst ?_
          refine g_ishrG (fun v9552 ev9552 lv9552 uv9552 => ?_)
          refine g_iorG (fun v9553 ev9553 lv9553 uv9553 => ?_)
          refine ev_bipush ?_
          refine g_iandB (b := 85) (by omega) (by omega) (by decide) (fun v9554 ev9554 lv9554 uv9554 => ?_)
          refine ev_iconst ?_
          refine ev_imul (r := (3 * v9554)) (by unfold w32; omega) ?_
          refine ev_ret rfl (by decide) (by decide) ?_
          show jEv _ _ _ _ _ _ _ (_, [(2, 1), (0, v9546), (0, a3)], [(0, (3 * v9554)), (0, v9551)], _, _, _)
          refine g_iandB (b := 255) (by omega) (by omega) (by decide) (fun v9555 ev9555 lv9555 uv9555 => ?_)
          refine ev_ifeq f163_20 (fun c9556 => ?_) (fun c9556 => ?_)
          · refine ev_aload_n rfl ?_
            refine ev_iload_n rfl ?_
            refine ev_iload_n rfl ?_
            refine g_iorG (fun v9557 ev9557 lv9557 uv9557 => ?_)
            refine ev_in (d := 1) (a := 0) (b := 0) (cd' := c161_0) (m := 2) (L0 := [(2, 1), (0, v9557)]) (jcall_v (A := [(0, v9557)]) (S' := []) (r := 1) rfl (g1.lt ad1) (g1.tg ad1) (Nat.le_of_ble_eq_true rfl)) (by decide) ml161 pp161 (Nat.le_of_ble_eq_true rfl) rfl (by decide) (by decide) ?_
            refine ev_iload_n rfl ?_
            refine ev_iflt f161_12 (fun c9558 => ?_) (fun c9558 => ?_)
            · refine ev_lconst ?_
              refine ev_goto f161_22 ?_
              refine ev_ret rfl (by decide) (by decide) ?_
              show jEv _ _ _ _ _ _ _ (_, [(2, 1), (0, v9546), (0, a3)], [(1, 0)], _, _, _)
              refine ev_ret rfl (by decide) (by decide) ?_
              show jEv _ _ _ _ _ _ _ (_, [(2, (r0 : Int)), (2, 1), (2, (f2 : Int)), (0, a3), (0, x4), (0, x5), j6, (9, 0)], [(1, 0)], _, _, _)
              refine ev_lstore (L' := [(2, (r0 : Int)), (2, 1), (2, (f2 : Int)), (0, a3), (0, x4), (0, x5), (1, 0), (9, 0)]) (Nat.le_of_ble_eq_true rfl) rfl ?_
              refine ev_aload_n rfl ?_
              refine g_qgetp g1 q0 (c := 12) (by decide) (by decide) ft4_12 ?_
              refine ev_iload rfl ?_
              refine ev_lload rfl ?_
              refine ev_aload_n rfl ?_
              refine ev_aload_n rfl ?_
              refine g_qgetp g1 q0 (c := 3) (by decide) (by decide) ft4_3 ?_
              refine ev_iload rfl ?_
              refine g_qiald g1 q0 (c := 3) (by decide) (by decide) (by decide) (by omega) (by show x5 < m0; omega) rfl (fun v9559 ev9559 lv9559 uv9559 => ?_)
              refine ev_aload_n rfl ?_
              refine g_qgetp g1 q0 (c := 11) (by decide) (by decide) ft4_11 ?_
              refine ev_iload rfl ?_
              refine g_qiald g1 q0 (c := 11) (by decide) (by decide) (by decide) (by omega) (by show x5 < m0; omega) rfl (fun v9560 ev9560 lv9560 uv9560 => ?_)
              refine g_isubG (fun v9561 ev9561 lv9561 uv9561 => ?_)
              refine ev_callF (A := [(0, v9561)]) (S' := [(1, 0), (0, x5), (2, ((r0 + 11 : Nat) : Int))]) (r := f2) rfl (g1.flt q2) (g1.ffam q2) (Nat.le_of_ble_eq_true rfl) (famL (by decide) (fam_measure g1 q2 (by omega) (by omega))) (by decide) (by decide) (fun w9562 h9562 q9562 => ?_)
              obtain ⟨v9563, rfl, lv9563, uv9563, g9562, kk9562⟩ := q9562
              have k9562 := k1.tr kk9562 (by decide)
              show jEv _ _ _ _ _ _ _ (_, [(2, (r0 : Int)), (2, 1), (2, (f2 : Int)), (0, a3), (0, x4), (0, x5), (1, 0), (9, 0)], [(0, v9563), (1, 0), (0, x5), (2, ((r0 + 11 : Nat) : Int))], _, _, _)
              refine ev_i2l ?_
              refine ev_lmul (r := 0) (by unfold w64; omega) ?_
              refine g_qlast g9562 q0 (c := 12) (by decide) (by decide) (by decide) (by omega) (by show x5 < m0; omega) rfl (by omega) (by omega) (fun h9564 e9564 g9564 => ?_)
              have k9564 := k9562.wr e9564 (inW_dyn rfl (by have := q0.1; omega))
              refine ev_iinc (w := (x5 + 1)) (L' := [(2, (r0 : Int)), (2, 1), (2, (f2 : Int)), (0, a3), (0, x4), (0, (x5 + 1)), (1, 0), (9, 0)]) rfl (by unfold w32; omega) rfl ?_
              refine ev_goto f43_13 ?_
              exact ih _ _ _ _ g9564 k9564 (by omega) (by omega) (by omega) (by omega) (by omega) (by omega) (by omega) (by omega)
            · refine ev_iload_n rfl ?_
              refine ev_aload_n rfl ?_
              refine ev_in (d := 0) (a := 0) (b := 0) (cd' := c157_0) (m := 1) (L0 := [(2, 1)]) (jcall_v (A := []) (S' := [(0, v9557)]) (r := 1) rfl (g1.lt ad1) (g1.tg ad1) (Nat.le_of_ble_eq_true rfl)) (by decide) ml157 pp157 (Nat.le_of_ble_eq_true rfl) rfl (by decide) (by decide) ?_
              refine ev_iconst ?_
              refine ev_iconst ?_
              refine ev_aload_n rfl ?_
              obtain ⟨v9565, ev9565, lv9565, uv9565⟩ := g1.rd ad1 (show 0 < 8 by decide) rf1_0
              refine g_getv (r := 1) (v := v9565) g1 ad1 (by decide) ft10_0 ev9565 ?_
              refine ev_imul (r := (2 * v9565)) (by unfold w32; omega) ?_
              refine g_ishlB (a' := 1) (a := 1) (b := 8) (hi := 256) (by omega) (by omega) (by omega) (by omega) (by decide) (by decide) (fun v9566 ev9566 lv9566 uv9566 => ?_)
              refine ev_ret rfl (by decide) (by decide) ?_
              show jEv _ _ _ _ _ _ _ (_, [(2, 1), (0, v9557)], [(0, v9566), (0, v9557)], _, _, _)
              refine ev_icmplt f161_16 (fun c9567 => ?_) (fun c9567 => ?_)
              · refine ev_aload_n rfl ?_
                refine g_getp (r := 1) (c := 6) g1 ad1 (by decide) (by decide) rf1_7 ft10_7 ?_
                refine ev_iload_n rfl ?_
                refine g_lald g1 ad6 rt6 (by omega) (by omega) (fun v9568 ev9568 lv9568 uv9568 => ?_)
                refine ev_ret rfl (by decide) (by decide) ?_
                show jEv _ _ _ _ _ _ _ (_, [(2, 1), (0, v9546), (0, a3)], [(1, v9568)], _, _, _)
                refine ev_ret rfl (by decide) (by decide) ?_
                show jEv _ _ _ _ _ _ _ (_, [(2, (r0 : Int)), (2, 1), (2, (f2 : Int)), (0, a3), (0, x4), (0, x5), j6, (9, 0)], [(1, v9568)], _, _, _)
                refine ev_lstore (L' := [(2, (r0 : Int)), (2, 1), (2, (f2 : Int)), (0, a3), (0, x4), (0, x5), (1, v9568), (9, 0)]) (Nat.le_of_ble_eq_true rfl) rfl ?_
                refine ev_aload_n rfl ?_
                refine g_qgetp g1 q0 (c := 12) (by decide) (by decide) ft4_12 ?_
                refine ev_iload rfl ?_
                refine ev_lload rfl ?_
                refine ev_aload_n rfl ?_
                refine ev_aload_n rfl ?_
                refine g_qgetp g1 q0 (c := 3) (by decide) (by decide) ft4_3 ?_
                refine ev_iload rfl ?_
                refine g_qiald g1 q0 (c := 3) (by decide) (by decide) (by decide) (by omega) (by show x5 < m0; omega) rfl (fun v9569 ev9569 lv9569 uv9569 => ?_)
                refine ev_aload_n rfl ?_
                refine g_qgetp g1 q0 (c := 11) (by decide) (by decide) ft4_11 ?_
                refine ev_iload rfl ?_
                refine g_qiald g1 q0 (c := 11) (by decide) (by decide) (by decide) (by omega) (by show x5 < m0; omega) rfl (fun v9570 ev9570 lv9570 uv9570 => ?_)
                refine g_isubG (fun v9571 ev9571 lv9571 uv9571 => ?_)
                refine ev_callF (A := [(0, v9571)]) (S' := [(1, v9568), (0, x5), (2, ((r0 + 11 : Nat) : Int))]) (r := f2) rfl (g1.flt q2) (g1.ffam q2) (Nat.le_of_ble_eq_true rfl) (famL (by decide) (fam_measure g1 q2 (by omega) (by omega))) (by decide) (by decide) (fun w9572 h9572 q9572 => ?_)
                obtain ⟨v9573, rfl, lv9573, uv9573, g9572, kk9572⟩ := q9572
                have k9572 := k1.tr kk9572 (by decide)
                show jEv _ _ _ _ _ _ _ (_, [(2, (r0 : Int)), (2, 1), (2, (f2 : Int)), (0, a3), (0, x4), (0, x5), (1, v9568), (9, 0)], [(0, v9573), (1, v9568), (0, x5), (2, ((r0 + 11 : Nat) : Int))], _, _, _)
                refine ev_i2l ?_
                refine g_lmulG (fun v9574 ev9574 lv9574 uv9574 => ?_)
                refine g_qlast g9572 q0 (c := 12) (by decide) (by decide) (by decide) (by omega) (by show x5 < m0; omega) rfl (by omega) (by omega) (fun h9575 e9575 g9575 => ?_)
                have k9575 := k9572.wr e9575 (inW_dyn rfl (by have := q0.1; omega))
                refine ev_iinc (w := (x5 + 1)) (L' := [(2, (r0 : Int)), (2, 1), (2, (f2 : Int)), (0, a3), (0, x4), (0, (x5 + 1)), (1, v9568), (9, 0)]) rfl (by unfold w32; omega) rfl ?_
                refine ev_goto f43_13 ?_
                exact ih _ _ _ _ g9575 k9575 (by omega) (by omega) (by omega) (by omega) (by omega) (by omega) (by omega) (by omega)
              · refine ev_lconst ?_
                refine ev_goto f161_22 ?_
                refine ev_ret rfl (by decide) (by decide) ?_
                show jEv _ _ _ _ _ _ _ (_, [(2, 1), (0, v9546), (0, a3)], [(1, 0)], _, _, _)
                refine ev_ret rfl (by decide) (by decide) ?_
                show jEv _ _ _ _ _ _ _ (_, [(2, (r0 : Int)), (2, 1), (2, (f2 : Int)), (0, a3), (0, x4), (0, x5), j6, (9, 0)], [(1, 0)], _, _, _)
                refine ev_lstore (L' := [(2, (r0 : Int)), (2, 1), (2, (f2 : Int)), (0, a3), (0, x4), (0, x5), (1, 0), (9, 0)]) (Nat.le_of_ble_eq_true rfl) rfl ?_
                refine ev_aload_n rfl ?_
                refine g_qgetp g1 q0 (c := 12) (by decide) (by decide) ft4_12 ?_
                refine ev_iload rfl ?_
                refine ev_lload rfl ?_
                refine ev_aload_n rfl ?_
                refine ev_aload_n rfl ?_
                refine g_qgetp g1 q0 (c := 3) (by decide) (by decide) ft4_3 ?_
                refine ev_iload rfl ?_
                refine g_qiald g1 q0 (c := 3) (by decide) (by decide) (by decide) (by omega) (by show x5 < m0; omega) rfl (fun v9576 ev9576 lv9576 uv9576 => ?_)
                refine ev_aload_n rfl ?_
                refine g_qgetp g1 q0 (c := 11) (by decide) (by decide) ft4_11 ?_
                refine ev_iload rfl ?_
                refine g_qiald g1 q0 (c := 11) (by decide) (by decide) (by decide) (by omega) (by show x5 < m0; omega) rfl (fun v9577 ev9577 lv9577 uv9577 => ?_)
                refine g_isubG (fun v9578 ev9578 lv9578 uv9578 => ?_)
                refine ev_callF (A := [(0, v9578)]) (S' := [(1, 0), (0, x5), (2, ((r0 + 11 : Nat) : Int))]) (r := f2) rfl (g1.flt q2) (g1.ffam q2) (Nat.le_of_ble_eq_true rfl) (famL (by decide) (fam_measure g1 q2 (by omega) (by omega))) (by decide) (by decide) (fun w9579 h9579 q9579 => ?_)
                obtain ⟨v9580, rfl, lv9580, uv9580, g9579, kk9579⟩ := q9579
                have k9579 := k1.tr kk9579 (by decide)
                show jEv _ _ _ _ _ _ _ (_, [(2, (r0 : Int)), (2, 1), (2, (f2 : Int)), (0, a3), (0, x4), (0, x5), (1, 0), (9, 0)], [(0, v9580), (1, 0), (0, x5), (2, ((r0 + 11 : Nat) : Int))], _, _, _)
                refine ev_i2l ?_
                refine ev_lmul (r := 0) (by unfold w64; omega) ?_
                refine g_qlast g9579 q0 (c := 12) (by decide) (by decide) (by decide) (by omega) (by show x5 < m0; omega) rfl (by omega) (by omega) (fun h9581 e9581 g9581 => ?_)
                have k9581 := k9579.wr e9581 (inW_dyn rfl (by have := q0.1; omega))
                refine ev_iinc (w := (x5 + 1)) (L' := [(2, (r0 : Int)), (2, 1), (2, (f2 : Int)), (0, a3), (0, x4), (0, (x5 + 1)), (1, 0), (9, 0)]) rfl (by unfold w32; omega) rfl ?_
                refine ev_goto f43_13 ?_
                exact ih _ _ _ _ g9581 k9581 (by omega) (by omega) (by omega) (by omega) (by omega) (by omega) (by omega) (by omega)
          · refine ev_lconst ?_
            refine ev_goto f163_27 ?_
            refine ev_ret rfl (by decide) (by decide) ?_
            show jEv _ _ _ _ _ _ _ (_, [(2, (r0 : Int)), (2, 1), (2, (f2 : Int)), (0, a3), (0, x4), (0, x5), j6, (9, 0)], [(1, 0)], _, _, _)
            refine ev_lstore (L' := [(2, (r0 : Int)), (2, 1), (2, (f2 : Int)), (0, a3), (0, x4), (0, x5), (1, 0), (9, 0)]) (Nat.le_of_ble_eq_true rfl) rfl ?_
            refine ev_aload_n rfl ?_
            refine g_qgetp g1 q0 (c := 12) (by decide) (by decide) ft4_12 ?_
            refine ev_iload rfl ?_
            refine ev_lload rfl ?_
            refine ev_aload_n rfl ?_
            refine ev_aload_n rfl ?_
            refine g_qgetp g1 q0 (c := 3) (by decide) (by decide) ft4_3 ?_
            refine ev_iload rfl ?_
            refine g_qiald g1 q0 (c := 3) (by decide) (by decide) (by decide) (by omega) (by show x5 < m0; omega) rfl (fun v9582 ev9582 lv9582 uv9582 => ?_)
            refine ev_aload_n rfl ?_
            refine g_qgetp g1 q0 (c := 11) (by decide) (by decide) ft4_11 ?_
            refine ev_iload rfl ?_
            refine g_qiald g1 q0 (c := 11) (by decide) (by decide) (by decide) (by omega) (by show x5 < m0; omega) rfl (fun v9583 ev9583 lv9583 uv9583 => ?_)
            refine g_isubG (fun v9584 ev9584 lv9584 uv9584 => ?_)
            refine ev_callF (A := [(0, v9584)]) (S' := [(1, 0), (0, x5), (2, ((r0 + 11 : Nat) : Int))]) (r := f2) rfl (g1.flt q2) (g1.ffam q2) (Nat.le_of_ble_eq_true rfl) (famL (by decide) (fam_measure g1 q2 (by omega) (by omega))) (by decide) (by decide) (fun w9585 h9585 q9585 => ?_)
            obtain ⟨v9586, rfl, lv9586, uv9586, g9585, kk9585⟩ := q9585
            have k9585 := k1.tr kk9585 (by decide)
            show jEv _ _ _ _ _ _ _ (_, [(2, (r0 : Int)), (2, 1), (2, (f2 : Int)), (0, a3), (0, x4), (0, x5), (1, 0), (9, 0)], [(0, v9586), (1, 0), (0, x5), (2, ((r0 + 11 : Nat) : Int))], _, _, _)
            refine ev_i2l ?_
            refine ev_lmul (r := 0) (by unfold w64; omega) ?_
            refine g_qlast g9585 q0 (c := 12) (by decide) (by decide) (by decide) (by omega) (by show x5 < m0; omega) rfl (by omega) (by omega) (fun h9587 e9587 g9587 => ?_)
            have k9587 := k9585.wr e9587 (inW_dyn rfl (by have := q0.1; omega))
            refine ev_iinc (w := (x5 + 1)) (L' := [(2, (r0 : Int)), (2, 1), (2, (f2 : Int)), (0, a3), (0, x4), (0, (x5 + 1)), (1, 0), (9, 0)]) rfl (by unfold w32; omega) rfl ?_
            refine ev_goto f43_13 ?_
            exact ih _ _ _ _ g9587 k9587 (by omega) (by omega) (by omega) (by omega) (by omega) (by omega) (by omega) (by omega)
        · refine ev_lconst ?_
          refine ev_goto f43_53 ?_
          refine ev_lstore (L' := [(2, (r0 : Int)), (2, 1), (2, (f2 : Int)), (0, a3), (0, x4), (0, x5), (1, 1), (9, 0)]) (Nat.le_of_ble_eq_true rfl) rfl ?_
          refine ev_aload_n rfl ?_
          refine g_qgetp g1 q0 (c := 12) (by decide) (by decide) ft4_12 ?_
          refine ev_iload rfl ?_
          refine ev_lload rfl ?_
          refine ev_aload_n rfl ?_
          refine ev_aload_n rfl ?_
          refine g_qgetp g1 q0 (c := 3) (by decide) (by decide) ft4_3 ?_
          refine ev_iload rfl ?_
          refine g_qiald g1 q0 (c := 3) (by decide) (by decide) (by decide) (by omega) (by show x5 < m0; omega) rfl (fun v9588 ev9588 lv9588 uv9588 => ?_)
          refine ev_aload_n rfl ?_
          refine g_qgetp g1 q0 (c := 11) (by decide) (by decide) ft4_11 ?_
          refine ev_iload rfl ?_
          refine g_qiald g1 q0 (c := 11) (by decide) (by decide) (by decide) (by omega) (by show x5 < m0; omega) rfl (fun v9589 ev9589 lv9589 uv9589 => ?_)
          refine g_isubG (fun v9590 ev9590 lv9590 uv9590 => ?_)
          refine ev_callF (A := [(0, v9590)]) (S' := [(1, 1), (0, x5), (2, ((r0 + 11 : Nat) : Int))]) (r := f2) rfl (g1.flt q2) (g1.ffam q2) (Nat.le_of_ble_eq_true rfl) (famL (by decide) (fam_measure g1 q2 (by omega) (by omega))) (by decide) (by decide) (fun w9591 h9591 q9591 => ?_)
          obtain ⟨v9592, rfl, lv9592, uv9592, g9591, kk9591⟩ := q9591
          have k9591 := k1.tr kk9591 (by decide)
          show jEv _ _ _ _ _ _ _ (_, [(2, (r0 : Int)), (2, 1), (2, (f2 : Int)), (0, a3), (0, x4), (0, x5), (1, 1), (9, 0)], [(0, v9592), (1, 1), (0, x5), (2, ((r0 + 11 : Nat) : Int))], _, _, _)
          refine ev_i2l ?_
          refine ev_lmul (r := v9592) (by unfold w64; omega) ?_
          refine g_qlast g9591 q0 (c := 12) (by decide) (by decide) (by decide) (by omega) (by show x5 < m0; omega) rfl (by omega) (by omega) (fun h9593 e9593 g9593 => ?_)
          have k9593 := k9591.wr e9593 (inW_dyn rfl (by have := q0.1; omega))
          refine ev_iinc (w := (x5 + 1)) (L' := [(2, (r0 : Int)), (2, 1), (2, (f2 : Int)), (0, a3), (0, x4), (0, (x5 + 1)), (1, 1), (9, 0)]) rfl (by unfold w32; omega) rfl ?_
          refine ev_goto f43_13 ?_
          exact ih _ _ _ _ g9593 k9593 (by omega) (by omega) (by omega) (by omega) (by omega) (by omega) (by omega) (by omega)
set_option maxHeartbeats 4000000 in
theorem s43 {G : GH} {h : JH} (g : Gd G h) {r0 : Nat} {m0 : Int} (q0 : IsQ G r0 m0) {f2 : Nat} (q2 : IsF G f2) {a3 : Int} (la3 : (-2147483648) ≤ a3) (ua3 : a3 ≤ 2147483647) : jOk 4 0 0 43 [(2, (r0 : Int)), (2, 1), (2, (f2 : Int)), (0, a3)] h (PV G [(1000000, 0)] h) := by
  refine ⟨by decide, by rw [ml43]; exact Nat.le_of_ble_eq_true rfl, ?_⟩
  rw [ml43, pp43]
  show jEv _ none _ c43_0 0 0 _ (c43_0, [(2, (r0 : Int)), (2, 1), (2, (f2 : Int)), (0, a3), (9, 0), (9, 0), (9, 0), (9, 0)], [], h, 0, 0)
  have k0 := Kp.rf [(1000000, 0)] h
  have wr0 := g.qb q0
  have zr0 := q0.1
  refine ev_aload_n rfl ?_
  refine ev_call (jcall_v (A := []) (S' := []) (r := r0) rfl (g.qlt q0) (g.qtg q0) (Nat.le_of_ble_eq_true rfl)) (jOk_le (by decide) (s42 g q0)) (by decide) (by decide) (fun w9594 h9594 q9594 => ?_)
  obtain ⟨rfl, g9594, kk9594⟩ := q9594
  have k9594 := k0.tr kk9594 (by decide)
  show jEv _ _ _ _ _ _ _ (_, [(2, (r0 : Int)), (2, 1), (2, (f2 : Int)), (0, a3), (9, 0), (9, 0), (9, 0), (9, 0)], [], _, _, _)
  refine ev_aload_n rfl ?_
  refine ev_callF (A := []) (S' := []) (r := f2) rfl (g9594.flt q2) (g9594.ffam q2) (Nat.le_of_ble_eq_true rfl) (famL (by decide) (fam_fearsWorst g9594 q2)) (by decide) (by decide) (fun w9595 h9595 q9595 => ?_)
  obtain ⟨v9596, rfl, lv9596, uv9596, g9595, kk9595⟩ := q9595
  have k9595 := k9594.tr kk9595 (by decide)
  show jEv _ _ _ _ _ _ _ (_, [(2, (r0 : Int)), (2, 1), (2, (f2 : Int)), (0, a3), (9, 0), (9, 0), (9, 0), (9, 0)], [(0, v9596)], _, _, _)
  refine ev_istore (L' := [(2, (r0 : Int)), (2, 1), (2, (f2 : Int)), (0, a3), (0, v9596), (9, 0), (9, 0), (9, 0)]) (Nat.le_of_ble_eq_true rfl) rfl ?_
  refine ev_iconst ?_
  refine ev_istore (L' := [(2, (r0 : Int)), (2, 1), (2, (f2 : Int)), (0, a3), (0, v9596), (0, 0), (9, 0), (9, 0)]) (Nat.le_of_ble_eq_true rfl) rfl ?_
  exact (s43_l q0 q2 la3 ua3 202) _ _ _ _ g9595 k9595 (by omega) (by omega) (by omega) (by omega) (by omega) (by omega) (by omega) (by omega)
/-! 45 bestWay -/
set_option maxHeartbeats 4000000 in
theorem s45_l {G : GH} {h : JH} {r0 : Nat} {m0 : Int} (q0 : IsQ G r0 m0) {a1 : Int} (la1 : 0 ≤ a1) (ua1 : a1 ≤ m0 - 1) {a2 : Int} (la2 : (-2147483648) ≤ a2) (ua2 : a2 ≤ 2147483647) {a3 : Int} (la3 : (-9223372036854775808) ≤ a3) (ua3 : a3 ≤ 9223372036854775807) : ∀ N : Nat, (∀ (h1 : JH) (x5 x6 x8 : Int) (j9 j10 : AV), Gd G h1 → Kp [] h h1 → 0 ≤ a1 → a1 ≤ 99 → (-2147483648) ≤ a2 → a2 ≤ 2147483647 → (-9223372036854775808) ≤ a3 → a3 ≤ 9223372036854775807 → 0 ≤ x5 → x5 ≤ 3 → (-9223372036854775808) ≤ x6 → x6 ≤ 9223372036854775807 → 0 ≤ x8 → x8 ≤ 4 → ((-x8) + 4) < N → jEv (jOk 1) none (fun _ => 0) c45_0 0 0 (PI G [] h 0 0 3) (c45_9, [(2, (r0 : Int)), (0, a1), (0, a2), (1, a3), (9, 0), (0, x5), (1, x6), (9, 0), (0, x8), j9, j10, (9, 0)], [], h1, 0, 0)) := by
  intro N
  induction N with
  | zero => exact fun h1 x5 x6 x8 j9 j10 g1 k1 b0 b1 b2 b3 b4 b5 b6 b7 b8 b9 b10 b11 hm => absurd hm (by omega)
  | succ N ih =>
    show _
    intro h1 x5 x6 x8 j9 j10 g1 k1 b0 b1 b2 b3 b4 b5 b6 b7 b8 b9 b10 b11 hm
    have wr0 := g1.qb q0
    have zr0 := q0.1
    refine ev_iload rfl ?_
    refine ev_aload_n rfl ?_
    refine g_qgetp g1 q0 (c := 4) (by decide) (by decide) ft4_4 ?_
    refine ev_iload_n rfl ?_
    refine g_qiald g1 q0 (c := 4) (by decide) (by decide) (by decide) (by omega) (by show a1 < m0; omega) rfl (fun v9649 ev9649 lv9649 uv9649 => ?_)
    refine ev_icmpge f45_75 (fun c9650 => ?_) (fun c9650 => ?_)
    · refine ev_iload rfl ?_
      exact ev_ret rfl (by decide) (by decide) ⟨_, rfl, by omega, by omega, g1, k1⟩
    · refine ev_aload_n rfl ?_
      refine ev_iload_n rfl ?_
      refine ev_iload rfl ?_
      refine ev_in (d := 0) (a := 0) (b := 0) (cd' := c30_0) (m := 3) (L0 := [(2, (r0 : Int)), (0, a1), (0, x8)]) (jcall_v (A := [(0, x8), (0, a1)]) (S' := []) (r := r0) rfl (g1.qlt q0) (g1.qtg q0) (Nat.le_of_ble_eq_true rfl)) (by decide) ml30 pp30 (Nat.le_of_ble_eq_true rfl) rfl (by decide) (by decide) ?_
      refine ev_aload_n rfl ?_
      refine g_qgetp g1 q0 (c := 5) (by decide) (by decide) ft4_5 ?_
      refine ev_iconst ?_
      refine ev_iload_n rfl ?_
      refine ev_imul (r := (4 * a1)) (by unfold w32; omega) ?_
      refine ev_iload_n rfl ?_
      refine ev_iadd (r := (4 * a1 + x8)) (by unfold w32; omega) ?_
      refine g_qiald g1 q0 (c := 5) (by decide) (by decide) (by decide) (by omega) (by show (4 * a1 + x8) < 4 * m0; omega) rfl (fun v9651 ev9651 lv9651 uv9651 => ?_)
      refine ev_ret rfl (by decide) (by decide) ?_
      show jEv _ _ _ _ _ _ _ (_, [(2, (r0 : Int)), (0, a1), (0, a2), (1, a3), (9, 0), (0, x5), (1, x6), (9, 0), (0, x8), j9, j10, (9, 0)], [(0, v9651)], _, _, _)
      refine ev_istore (L' := [(2, (r0 : Int)), (0, a1), (0, a2), (1, a3), (9, 0), (0, x5), (1, x6), (9, 0), (0, x8), (0, v9651), j10, (9, 0)]) (Nat.le_of_ble_eq_true rfl) rfl ?_
      refine ev_iload rfl ?_
      refine ev_iload_n rfl ?_
      refine ev_icmpne f45_39 (fun c9652 => ?_) (fun c9652 => ?_)
      · refine ev_aload_n rfl ?_
        refine g_qgetp g1 q0 (c := 12) (by decide) (by decide) ft4_12 ?_
        refine ev_iload rfl ?_
        refine g_qlald g1 q0 (c := 12) (by decide) (by decide) (by decide) (by omega) (by show v9651 < m0; omega) rfl (fun v9653 ev9653 lv9653 uv9653 => ?_)
        refine ev_lstore (L' := [(2, (r0 : Int)), (0, a1), (0, a2), (1, a3), (9, 0), (0, x5), (1, x6), (9, 0), (0, x8), (0, v9651), (1, v9653), (9, 0)]) (Nat.le_of_ble_eq_true rfl) rfl ?_
        refine ev_iload rfl ?_
        refine ev_ifeq f45_61 (fun c9654 => ?_) (fun c9654 => ?_)
        · refine ev_lload rfl ?_
          refine ev_lstore (L' := [(2, (r0 : Int)), (0, a1), (0, a2), (1, a3), (9, 0), (0, x5), (1, v9653), (9, 0), (0, x8), (0, v9651), (1, v9653), (9, 0)]) (Nat.le_of_ble_eq_true rfl) rfl ?_
          refine ev_iload rfl ?_
          refine ev_istore (L' := [(2, (r0 : Int)), (0, a1), (0, a2), (1, a3), (9, 0), (0, x8), (1, v9653), (9, 0), (0, x8), (0, v9651), (1, v9653), (9, 0)]) (Nat.le_of_ble_eq_true rfl) rfl ?_
          refine ev_iinc (w := (x8 + 1)) (L' := [(2, (r0 : Int)), (0, a1), (0, a2), (1, a3), (9, 0), (0, x8), (1, v9653), (9, 0), (0, (x8 + 1)), (0, v9651), (1, v9653), (9, 0)]) rfl (by unfold w32; omega) rfl ?_
          refine ev_goto f45_9 ?_
          exact ih _ _ _ _ _ _ g1 k1 (by omega) (by omega) (by omega) (by omega) (by omega) (by omega) (by omega) (by omega) (by omega) (by omega) (by omega) (by omega) (by omega)
        · refine ev_lload rfl ?_
          refine ev_lload rfl ?_
          refine ev_lcmp ?_
          refine ev_ifle f45_69 (fun c9655 => ?_) (fun c9655 => ?_)
          · have c9655b := jcmpL_le c9655
            refine ev_iinc (w := (x8 + 1)) (L' := [(2, (r0 : Int)), (0, a1), (0, a2), (1, a3), (9, 0), (0, x5), (1, x6), (9, 0), (0, (x8 + 1)), (0, v9651), (1, v9653), (9, 0)]) rfl (by unfold w32; omega) rfl ?_
            refine ev_goto f45_9 ?_
            exact ih _ _ _ _ _ _ g1 k1 (by omega) (by omega) (by omega) (by omega) (by omega) (by omega) (by omega) (by omega) (by omega) (by omega) (by omega) (by omega) (by omega)
          · have c9655b := jcmpL_leN c9655
            refine ev_lload rfl ?_
            refine ev_lstore (L' := [(2, (r0 : Int)), (0, a1), (0, a2), (1, a3), (9, 0), (0, x5), (1, v9653), (9, 0), (0, x8), (0, v9651), (1, v9653), (9, 0)]) (Nat.le_of_ble_eq_true rfl) rfl ?_
            refine ev_iload rfl ?_
            refine ev_istore (L' := [(2, (r0 : Int)), (0, a1), (0, a2), (1, a3), (9, 0), (0, x8), (1, v9653), (9, 0), (0, x8), (0, v9651), (1, v9653), (9, 0)]) (Nat.le_of_ble_eq_true rfl) rfl ?_
            refine ev_iinc (w := (x8 + 1)) (L' := [(2, (r0 : Int)), (0, a1), (0, a2), (1, a3), (9, 0), (0, x8), (1, v9653), (9, 0), (0, (x8 + 1)), (0, v9651), (1, v9653), (9, 0)]) rfl (by unfold w32; omega) rfl ?_
            refine ev_goto f45_9 ?_
            exact ih _ _ _ _ _ _ g1 k1 (by omega) (by omega) (by omega) (by omega) (by omega) (by omega) (by omega) (by omega) (by omega) (by omega) (by omega) (by omega) (by omega)
      · refine ev_lload_n rfl ?_
        refine ev_goto f45_46 ?_
        refine ev_lstore (L' := [(2, (r0 : Int)), (0, a1), (0, a2), (1, a3), (9, 0), (0, x5), (1, x6), (9, 0), (0, x8), (0, v9651), (1, a3), (9, 0)]) (Nat.le_of_ble_eq_true rfl) rfl ?_
        refine ev_iload rfl ?_
        refine ev_ifeq f45_61 (fun c9656 => ?_) (fun c9656 => ?_)
        · refine ev_lload rfl ?_
          refine ev_lstore (L' := [(2, (r0 : Int)), (0, a1), (0, a2), (1, a3), (9, 0), (0, x5), (1, a3), (9, 0), (0, x8), (0, v9651), (1, a3), (9, 0)]) (Nat.le_of_ble_eq_true rfl) rfl ?_
          refine ev_iload rfl ?_
          refine ev_istore (L' := [(2, (r0 : Int)), (0, a1), (0, a2), (1, a3), (9, 0), (0, x8), (1, a3), (9, 0), (0, x8), (0, v9651), (1, a3), (9, 0)]) (Nat.le_of_ble_eq_true rfl) rfl ?_
          refine ev_iinc (w := (x8 + 1)) (L' := [(2, (r0 : Int)), (0, a1), (0, a2), (1, a3), (9, 0), (0, x8), (1, a3), (9, 0), (0, (x8 + 1)), (0, v9651), (1, a3), (9, 0)]) rfl (by unfold w32; omega) rfl ?_
          refine ev_goto f45_9 ?_
          exact ih _ _ _ _ _ _ g1 k1 (by omega) (by omega) (by omega) (by omega) (by omega) (by omega) (by omega) (by omega) (by omega) (by omega) (by omega) (by omega) (by omega)
        · refine ev_lload rfl ?_
          refine ev_lload rfl ?_
          refine ev_lcmp ?_
          refine ev_ifle f45_69 (fun c9657 => ?_) (fun c9657 => ?_)
          · have c9657b := jcmpL_le c9657
            refine ev_iinc (w := (x8 + 1)) (L' := [(2, (r0 : Int)), (0, a1), (0, a2), (1, a3), (9, 0), (0, x5), (1, x6), (9, 0), (0, (x8 + 1)), (0, v9651), (1, a3), (9, 0)]) rfl (by unfold w32; omega) rfl ?_
            refine ev_goto f45_9 ?_
            exact ih _ _ _ _ _ _ g1 k1 (by omega) (by omega) (by omega) (by omega) (by omega) (by omega) (by omega) (by omega) (by omega) (by omega) (by omega) (by omega) (by omega)
          · have c9657b := jcmpL_leN c9657
            refine ev_lload rfl ?_
            refine ev_lstore (L' := [(2, (r0 : Int)), (0, a1), (0, a2), (1, a3), (9, 0), (0, x5), (1, a3), (9, 0), (0, x8), (0, v9651), (1, a3), (9, 0)]) (Nat.le_of_ble_eq_true rfl) rfl ?_
            refine ev_iload rfl ?_
            refine ev_istore (L' := [(2, (r0 : Int)), (0, a1), (0, a2), (1, a3), (9, 0), (0, x8), (1, a3), (9, 0), (0, x8), (0, v9651), (1, a3), (9, 0)]) (Nat.le_of_ble_eq_true rfl) rfl ?_
            refine ev_iinc (w := (x8 + 1)) (L' := [(2, (r0 : Int)), (0, a1), (0, a2), (1, a3), (9, 0), (0, x8), (1, a3), (9, 0), (0, (x8 + 1)), (0, v9651), (1, a3), (9, 0)]) rfl (by unfold w32; omega) rfl ?_
            refine ev_goto f45_9 ?_
            exact ih _ _ _ _ _ _ g1 k1 (by omega) (by omega) (by omega) (by omega) (by omega) (by omega) (by omega) (by omega) (by omega) (by omega) (by omega) (by omega) (by omega)
set_option maxHeartbeats 4000000 in
theorem s45 {G : GH} {h : JH} (g : Gd G h) {r0 : Nat} {m0 : Int} (q0 : IsQ G r0 m0) {a1 : Int} (la1 : 0 ≤ a1) (ua1 : a1 ≤ m0 - 1) {a2 : Int} (la2 : (-2147483648) ≤ a2) (ua2 : a2 ≤ 2147483647) {a3 : Int} (la3 : (-9223372036854775808) ≤ a3) (ua3 : a3 ≤ 9223372036854775807) : jOk 2 0 0 45 [(2, (r0 : Int)), (0, a1), (0, a2), (1, a3)] h (PI G [] h 0 0 3) := by
  refine ⟨by decide, by rw [ml45]; exact Nat.le_of_ble_eq_true rfl, ?_⟩
  rw [ml45, pp45]
  show jEv _ none _ c45_0 0 0 _ (c45_0, [(2, (r0 : Int)), (0, a1), (0, a2), (1, a3), (9, 0), (9, 0), (9, 0), (9, 0), (9, 0), (9, 0), (9, 0), (9, 0)], [], h, 0, 0)
  have k0 := Kp.rf [] h
  have wr0 := g.qb q0
  have zr0 := q0.1
  refine ev_iconst ?_
  refine ev_istore (L' := [(2, (r0 : Int)), (0, a1), (0, a2), (1, a3), (9, 0), (0, 0), (9, 0), (9, 0), (9, 0), (9, 0), (9, 0), (9, 0)]) (Nat.le_of_ble_eq_true rfl) rfl ?_
  refine ev_lconst ?_
  refine ev_lstore (L' := [(2, (r0 : Int)), (0, a1), (0, a2), (1, a3), (9, 0), (0, 0), (1, 0), (9, 0), (9, 0), (9, 0), (9, 0), (9, 0)]) (Nat.le_of_ble_eq_true rfl) rfl ?_
  refine ev_iconst ?_
  refine ev_istore (L' := [(2, (r0 : Int)), (0, a1), (0, a2), (1, a3), (9, 0), (0, 0), (1, 0), (9, 0), (0, 0), (9, 0), (9, 0), (9, 0)]) (Nat.le_of_ble_eq_true rfl) rfl ?_
  exact (s45_l q0 la1 ua1 la2 ua2 la3 ua3 10) _ _ _ _ _ _ g k0 (by omega) (by omega) (by omega) (by omega) (by omega) (by omega) (by omega) (by omega) (by omega) (by omega) (by omega) (by omega) (by omega)
/-! 46 turnedWorth -/
set_option maxHeartbeats 4000000 in
theorem s46_l {G : GH} {h : JH} {r0 : Nat} {m0 : Int} (q0 : IsQ G r0 m0) {a1 : Int} (la1 : 0 ≤ a1) (ua1 : a1 ≤ m0 - 1) {a2 : Int} (la2 : 0 ≤ a2) (ua2 : a2 ≤ 1) : ∀ N : Nat, (∀ (h1 : JH) (x3 x5 : Int) (j6 : AV), Gd G h1 → Kp [] h h1 → 0 ≤ a1 → a1 ≤ 99 → 0 ≤ a2 → a2 ≤ 1 → (-9223372036854775808) ≤ x3 → x3 ≤ 9223372036854775807 → 1 ≤ x5 → x5 ≤ 4 → ((-x5) + 4) < N → jEv (jOk 1) none (fun _ => 0) c46_0 0 0 (PI G [] h 1 (-9223372036854775808) 9223372036854775807) (c46_15, [(2, (r0 : Int)), (0, a1), (0, a2), (1, x3), (9, 0), (0, x5), j6, (9, 0)], [], h1, 0, 0)) := by
  intro N
  induction N with
  | zero => exact fun h1 x3 x5 j6 g1 k1 b0 b1 b2 b3 b4 b5 b6 b7 hm => absurd hm (by omega)
  | succ N ih =>
    show _
    intro h1 x3 x5 j6 g1 k1 b0 b1 b2 b3 b4 b5 b6 b7 hm
    have wr0 := g1.qb q0
    have zr0 := q0.1
    refine ev_iload rfl ?_
    refine ev_aload_n rfl ?_
    refine g_qgetp g1 q0 (c := 4) (by decide) (by decide) ft4_4 ?_
    refine ev_iload_n rfl ?_
    refine g_qiald g1 q0 (c := 4) (by decide) (by decide) (by decide) (by omega) (by show a1 < m0; omega) rfl (fun v9697 ev9697 lv9697 uv9697 => ?_)
    refine ev_icmpge f46_64 (fun c9698 => ?_) (fun c9698 => ?_)
    · refine ev_lload_n rfl ?_
      exact ev_ret rfl (by decide) (by decide) ⟨_, rfl, by omega, by omega, g1, k1⟩
    · refine ev_aload_n rfl ?_
      refine g_qgetp g1 q0 (c := 12) (by decide) (by decide) ft4_12 ?_
      refine ev_aload_n rfl ?_
      refine ev_iload_n rfl ?_
      refine ev_iload rfl ?_
      refine ev_in (d := 0) (a := 0) (b := 0) (cd' := c30_0) (m := 3) (L0 := [(2, (r0 : Int)), (0, a1), (0, x5)]) (jcall_v (A := [(0, x5), (0, a1)]) (S' := [(2, ((r0 + 11 : Nat) : Int))]) (r := r0) rfl (g1.qlt q0) (g1.qtg q0) (Nat.le_of_ble_eq_true rfl)) (by decide) ml30 pp30 (Nat.le_of_ble_eq_true rfl) rfl (by decide) (by decide) ?_
      refine ev_aload_n rfl ?_
      refine g_qgetp g1 q0 (c := 5) (by decide) (by decide) ft4_5 ?_
      refine ev_iconst ?_
      refine ev_iload_n rfl ?_
      refine ev_imul (r := (4 * a1)) (by unfold w32; omega) ?_
      refine ev_iload_n rfl ?_
      refine ev_iadd (r := (4 * a1 + x5)) (by unfold w32; omega) ?_
      refine g_qiald g1 q0 (c := 5) (by decide) (by decide) (by decide) (by omega) (by show (4 * a1 + x5) < 4 * m0; omega) rfl (fun v9699 ev9699 lv9699 uv9699 => ?_)
      refine ev_ret rfl (by decide) (by decide) ?_
      show jEv _ _ _ _ _ _ _ (_, [(2, (r0 : Int)), (0, a1), (0, a2), (1, x3), (9, 0), (0, x5), j6, (9, 0)], [(0, v9699), (2, ((r0 + 11 : Nat) : Int))], _, _, _)
      refine g_qlald g1 q0 (c := 12) (by decide) (by decide) (by decide) (by omega) (by show v9699 < m0; omega) rfl (fun v9700 ev9700 lv9700 uv9700 => ?_)
      refine ev_lstore (L' := [(2, (r0 : Int)), (0, a1), (0, a2), (1, x3), (9, 0), (0, x5), (1, v9700), (9, 0)]) (Nat.le_of_ble_eq_true rfl) rfl ?_
      refine ev_iload_n rfl ?_
      refine ev_ifeq f46_53 (fun c9701 => ?_) (fun c9701 => ?_)
      · refine ev_lload_n rfl ?_
        refine ev_lload rfl ?_
        refine g_laddG (fun v9702 ev9702 lv9702 uv9702 => ?_)
        refine ev_lstore_n (L' := [(2, (r0 : Int)), (0, a1), (0, a2), (1, v9702), (9, 0), (0, x5), (1, v9700), (9, 0)]) (Nat.le_of_ble_eq_true rfl) rfl ?_
        refine ev_iinc (w := (x5 + 1)) (L' := [(2, (r0 : Int)), (0, a1), (0, a2), (1, v9702), (9, 0), (0, (x5 + 1)), (1, v9700), (9, 0)]) rfl (by unfold w32; omega) rfl ?_
        refine ev_goto f46_15 ?_
        exact ih _ _ _ _ g1 k1 (by omega) (by omega) (by omega) (by omega) (by omega) (by omega) (by omega) (by omega) (by omega)
      · refine ev_lload_n rfl ?_
        refine ev_lload rfl ?_
        refine ev_in (d := 0) (a := 0) (b := 0) (cd' := c382_0) (m := 4) (L0 := [(1, x3), (9, 0), (1, v9700), (9, 0)]) (jcall_s (A := [(1, v9700), (1, x3)]) (S' := []) (by decide) rfl (Nat.le_of_ble_eq_true rfl)) (by decide) ml382 pp382 (Nat.le_of_ble_eq_true rfl) rfl (by decide) (by decide) ?_
        refine ev_lload_n rfl ?_
        refine ev_lload_n rfl ?_
        refine ev_lcmp ?_
        refine ev_ifgt f382_10 (fun c9703 => ?_) (fun c9703 => ?_)
        · have c9703b := jcmpL_gt c9703
          refine ev_lload_n rfl ?_
          refine ev_ret rfl (by decide) (by decide) ?_
          show jEv _ _ _ _ _ _ _ (_, [(2, (r0 : Int)), (0, a1), (0, a2), (1, x3), (9, 0), (0, x5), (1, v9700), (9, 0)], [(1, v9700)], _, _, _)
          refine ev_goto f46_57 ?_
          refine ev_lstore_n (L' := [(2, (r0 : Int)), (0, a1), (0, a2), (1, v9700), (9, 0), (0, x5), (1, v9700), (9, 0)]) (Nat.le_of_ble_eq_true rfl) rfl ?_
          refine ev_iinc (w := (x5 + 1)) (L' := [(2, (r0 : Int)), (0, a1), (0, a2), (1, v9700), (9, 0), (0, (x5 + 1)), (1, v9700), (9, 0)]) rfl (by unfold w32; omega) rfl ?_
          refine ev_goto f46_15 ?_
          exact ih _ _ _ _ g1 k1 (by omega) (by omega) (by omega) (by omega) (by omega) (by omega) (by omega) (by omega) (by omega)
        · have c9703b := jcmpL_gtN c9703
          refine ev_lload_n rfl ?_
          refine ev_goto f382_11 ?_
          refine ev_ret rfl (by decide) (by decide) ?_
          show jEv _ _ _ _ _ _ _ (_, [(2, (r0 : Int)), (0, a1), (0, a2), (1, x3), (9, 0), (0, x5), (1, v9700), (9, 0)], [(1, x3)], _, _, _)
          refine ev_goto f46_57 ?_
          refine ev_lstore_n (L' := [(2, (r0 : Int)), (0, a1), (0, a2), (1, x3), (9, 0), (0, x5), (1, v9700), (9, 0)]) (Nat.le_of_ble_eq_true rfl) rfl ?_
          refine ev_iinc (w := (x5 + 1)) (L' := [(2, (r0 : Int)), (0, a1), (0, a2), (1, x3), (9, 0), (0, (x5 + 1)), (1, v9700), (9, 0)]) rfl (by unfold w32; omega) rfl ?_
          refine ev_goto f46_15 ?_
          exact ih _ _ _ _ g1 k1 (by omega) (by omega) (by omega) (by omega) (by omega) (by omega) (by omega) (by omega) (by omega)
set_option maxHeartbeats 4000000 in
theorem s46 {G : GH} {h : JH} (g : Gd G h) {r0 : Nat} {m0 : Int} (q0 : IsQ G r0 m0) {a1 : Int} (la1 : 0 ≤ a1) (ua1 : a1 ≤ m0 - 1) {a2 : Int} (la2 : 0 ≤ a2) (ua2 : a2 ≤ 1) : jOk 2 0 0 46 [(2, (r0 : Int)), (0, a1), (0, a2)] h (PI G [] h 1 (-9223372036854775808) 9223372036854775807) := by
  refine ⟨by decide, by rw [ml46]; exact Nat.le_of_ble_eq_true rfl, ?_⟩
  rw [ml46, pp46]
  show jEv _ none _ c46_0 0 0 _ (c46_0, [(2, (r0 : Int)), (0, a1), (0, a2), (9, 0), (9, 0), (9, 0), (9, 0), (9, 0)], [], h, 0, 0)
  have k0 := Kp.rf [] h
  have wr0 := g.qb q0
  have zr0 := q0.1
  refine ev_aload_n rfl ?_
  refine g_qgetp g q0 (c := 12) (by decide) (by decide) ft4_12 ?_
  refine ev_aload_n rfl ?_
  refine ev_iload_n rfl ?_
  refine ev_iconst ?_
  refine ev_in (d := 0) (a := 0) (b := 0) (cd' := c30_0) (m := 3) (L0 := [(2, (r0 : Int)), (0, a1), (0, 0)]) (jcall_v (A := [(0, 0), (0, a1)]) (S' := [(2, ((r0 + 11 : Nat) : Int))]) (r := r0) rfl (g.qlt q0) (g.qtg q0) (Nat.le_of_ble_eq_true rfl)) (by decide) ml30 pp30 (Nat.le_of_ble_eq_true rfl) rfl (by decide) (by decide) ?_
  refine ev_aload_n rfl ?_
  refine g_qgetp g q0 (c := 5) (by decide) (by decide) ft4_5 ?_
  refine ev_iconst ?_
  refine ev_iload_n rfl ?_
  refine ev_imul (r := (4 * a1)) (by unfold w32; omega) ?_
  refine ev_iload_n rfl ?_
  refine ev_iadd (r := (4 * a1)) (by unfold w32; omega) ?_
  refine g_qiald g q0 (c := 5) (by decide) (by decide) (by decide) (by omega) (by show (4 * a1) < 4 * m0; omega) rfl (fun v9704 ev9704 lv9704 uv9704 => ?_)
  refine ev_ret rfl (by decide) (by decide) ?_
  show jEv _ _ _ _ _ _ _ (_, [(2, (r0 : Int)), (0, a1), (0, a2), (9, 0), (9, 0), (9, 0), (9, 0), (9, 0)], [(0, v9704), (2, ((r0 + 11 : Nat) : Int))], _, _, _)
  refine g_qlald g q0 (c := 12) (by decide) (by decide) (by decide) (by omega) (by show v9704 < m0; omega) rfl (fun v9705 ev9705 lv9705 uv9705 => ?_)
  refine ev_lstore_n (L' := [(2, (r0 : Int)), (0, a1), (0, a2), (1, v9705), (9, 0), (9, 0), (9, 0), (9, 0)]) (Nat.le_of_ble_eq_true rfl) rfl ?_
  refine ev_iconst ?_
  refine ev_istore (L' := [(2, (r0 : Int)), (0, a1), (0, a2), (1, v9705), (9, 0), (0, 1), (9, 0), (9, 0)]) (Nat.le_of_ble_eq_true rfl) rfl ?_
  exact (s46_l q0 la1 ua1 la2 ua2 8) _ _ _ _ g k0 (by omega) (by omega) (by omega) (by omega) (by omega) (by omega) (by omega) (by omega) (by omega)
/-! 44 rise -/
set_option maxHeartbeats 4000000 in
theorem s44_l {G : GH} {h : JH} {r0 : Nat} {m0 : Int} (q0 : IsQ G r0 m0) {a1 : Int} (la1 : 0 ≤ a1) (ua1 : a1 ≤ 1) {a2 : Int} (la2 : 0 ≤ a2) (ua2 : a2 ≤ 1) : ∀ N : Nat, (∀ (h1 : JH) (x3 : Int), Gd G h1 → Kp [(1000000, 0)] h h1 → 0 ≤ a1 → a1 ≤ 1 → 0 ≤ a2 → a2 ≤ 1 → (-1) ≤ x3 → x3 ≤ 99 → x3 ≤ m0 - 1 → (x3 + 1) < N → jEv (jOk 2) none (fun _ => 0) c44_0 0 0 (PI G [(1000000, 0)] h 1 (-9223372036854775808) 9223372036854775807) (c44_7, [(2, (r0 : Int)), (0, a1), (0, a2), (0, x3)], [], h1, 0, 0)) := by
  intro N
  induction N with
  | zero => exact fun h1 x3 g1 k1 b0 b1 b2 b3 b4 b5 b6 hm => absurd hm (by omega)
  | succ N ih =>
    show _
    intro h1 x3 g1 k1 b0 b1 b2 b3 b4 b5 b6 hm
    have wr0 := g1.qb q0
    have zr0 := q0.1
    refine ev_iload_n rfl ?_
    refine ev_iflt f44_100 (fun c9748 => ?_) (fun c9748 => ?_)
    · refine ev_aload_n rfl ?_
      refine g_qgetp g1 q0 (c := 12) (by decide) (by decide) ft4_12 ?_
      refine ev_iconst ?_
      refine g_qlald g1 q0 (c := 12) (by decide) (by decide) (by decide) (by omega) (by show 0 < m0; omega) rfl (fun v9749 ev9749 lv9749 uv9749 => ?_)
      exact ev_ret rfl (by decide) (by decide) ⟨_, rfl, by omega, by omega, g1, k1⟩
    · refine ev_aload_n rfl ?_
      refine g_qgetp g1 q0 (c := 2) (by decide) (by decide) ft4_2 ?_
      refine ev_iload_n rfl ?_
      refine g_qiald g1 q0 (c := 2) (by decide) (by decide) (by decide) (by omega) (by show x3 < m0; omega) rfl (fun v9750 ev9750 lv9750 uv9750 => ?_)
      refine ev_iconst ?_
      refine ev_icmpne f44_72 (fun c9751 => ?_) (fun c9751 => ?_)
      · refine ev_aload_n rfl ?_
        refine g_qgetp g1 q0 (c := 2) (by decide) (by decide) ft4_2 ?_
        refine ev_iload_n rfl ?_
        refine g_qialdv (v := v9750) g1 q0 (c := 2) (by decide) (by decide) (by decide) (by omega) (by show x3 < m0; omega) (ev9750) ?_
        refine ev_iconst ?_
        refine ev_icmpne f44_94 (fun c9752 => ?_) (fun c9752 => ?_)
        · refine ev_iinc (w := (x3 - 1)) (L' := [(2, (r0 : Int)), (0, a1), (0, a2), (0, (x3 - 1))]) rfl (by unfold w32; omega) rfl ?_
          refine ev_goto f44_7 ?_
          exact ih _ _ g1 k1 (by omega) (by omega) (by omega) (by omega) (by omega) (by omega) (by omega) (by omega)
        · refine ev_aload_n rfl ?_
          refine g_qgetp g1 q0 (c := 12) (by decide) (by decide) ft4_12 ?_
          refine ev_iload_n rfl ?_
          refine ev_aload_n rfl ?_
          refine ev_iload_n rfl ?_
          refine ev_iload_n rfl ?_
          refine ev_call (jcall_v (A := [(0, a1), (0, x3)]) (S' := [(0, x3), (2, ((r0 + 11 : Nat) : Int))]) (r := r0) rfl (g1.qlt q0) (g1.qtg q0) (Nat.le_of_ble_eq_true rfl)) (jOk_le (by decide) (s46 g1 q0 (by omega) (by omega) (by omega) (by omega))) (by decide) (by decide) (fun w9753 h9753 q9753 => ?_)
          obtain ⟨v9754, rfl, lv9754, uv9754, g9753, kk9753⟩ := q9753
          have k9753 := k1.tr kk9753 (by decide)
          show jEv _ _ _ _ _ _ _ (_, [(2, (r0 : Int)), (0, a1), (0, a2), (0, x3)], [(1, v9754), (0, x3), (2, ((r0 + 11 : Nat) : Int))], _, _, _)
          refine g_qlast g9753 q0 (c := 12) (by decide) (by decide) (by decide) (by omega) (by show x3 < m0; omega) rfl (by omega) (by omega) (fun h9755 e9755 g9755 => ?_)
          have k9755 := k9753.wr e9755 (inW_dyn rfl (by have := q0.1; omega))
          refine ev_iinc (w := (x3 - 1)) (L' := [(2, (r0 : Int)), (0, a1), (0, a2), (0, (x3 - 1))]) rfl (by unfold w32; omega) rfl ?_
          refine ev_goto f44_7 ?_
          exact ih _ _ g9755 k9755 (by omega) (by omega) (by omega) (by omega) (by omega) (by omega) (by omega) (by omega)
      · refine ev_aload_n rfl ?_
        refine g_qgetp g1 q0 (c := 10) (by decide) (by decide) ft4_10 ?_
        refine ev_iload_n rfl ?_
        refine ev_iload_n rfl ?_
        refine ev_ifeq f44_40 (fun c9756 => ?_) (fun c9756 => ?_)
        · refine ev_aload_n rfl ?_
          refine g_qgetp g1 q0 (c := 9) (by decide) (by decide) ft4_9 ?_
          refine ev_iload_n rfl ?_
          refine g_qiald g1 q0 (c := 9) (by decide) (by decide) (by decide) (by omega) (by show x3 < m0; omega) rfl (fun v9757 ev9757 lv9757 uv9757 => ?_)
          refine g_qiast g1 q0 (c := 10) (by decide) (by decide) (by decide) (by omega) (by show x3 < m0; omega) rfl (by omega) (by omega) (fun h9758 e9758 g9758 => ?_)
          have k9758 := k1.wr e9758 (inW_dyn rfl (by have := q0.1; omega))
          refine ev_aload_n rfl ?_
          refine g_qgetp g9758 q0 (c := 12) (by decide) (by decide) ft4_12 ?_
          refine ev_iload_n rfl ?_
          refine ev_aload_n rfl ?_
          refine g_qgetp g9758 q0 (c := 12) (by decide) (by decide) ft4_12 ?_
          refine ev_aload_n rfl ?_
          refine ev_iload_n rfl ?_
          refine ev_aload_n rfl ?_
          refine g_qgetp g9758 q0 (c := 10) (by decide) (by decide) ft4_10 ?_
          refine ev_iload_n rfl ?_
          refine g_qialdv (v := v9757) g9758 q0 (c := 10) (by decide) (by decide) (by decide) (by omega) (by show x3 < m0; omega) ((jw_eq e9758)) ?_
          refine ev_in (d := 1) (a := 0) (b := 0) (cd' := c30_0) (m := 3) (L0 := [(2, (r0 : Int)), (0, x3), (0, v9757)]) (jcall_v (A := [(0, v9757), (0, x3)]) (S' := [(2, ((r0 + 11 : Nat) : Int)), (0, x3), (2, ((r0 + 11 : Nat) : Int))]) (r := r0) rfl (g9758.qlt q0) (g9758.qtg q0) (Nat.le_of_ble_eq_true rfl)) (by decide) ml30 pp30 (Nat.le_of_ble_eq_true rfl) rfl (by decide) (by decide) ?_
          refine ev_aload_n rfl ?_
          refine g_qgetp g9758 q0 (c := 5) (by decide) (by decide) ft4_5 ?_
          refine ev_iconst ?_
          refine ev_iload_n rfl ?_
          refine ev_imul (r := (4 * x3)) (by unfold w32; omega) ?_
          refine ev_iload_n rfl ?_
          refine ev_iadd (r := (v9757 + 4 * x3)) (by unfold w32; omega) ?_
          refine g_qiald g9758 q0 (c := 5) (by decide) (by decide) (by decide) (by omega) (by show (v9757 + 4 * x3) < 4 * m0; omega) rfl (fun v9759 ev9759 lv9759 uv9759 => ?_)
          refine ev_ret rfl (by decide) (by decide) ?_
          show jEv _ _ _ _ _ _ _ (_, [(2, (r0 : Int)), (0, a1), (0, a2), (0, x3)], [(0, v9759), (2, ((r0 + 11 : Nat) : Int)), (0, x3), (2, ((r0 + 11 : Nat) : Int))], _, _, _)
          refine g_qlald g9758 q0 (c := 12) (by decide) (by decide) (by decide) (by omega) (by show v9759 < m0; omega) rfl (fun v9760 ev9760 lv9760 uv9760 => ?_)
          refine g_qlast g9758 q0 (c := 12) (by decide) (by decide) (by decide) (by omega) (by show x3 < m0; omega) rfl (by omega) (by omega) (fun h9761 e9761 g9761 => ?_)
          have k9761 := k9758.wr e9761 (inW_dyn rfl (by have := q0.1; omega))
          refine ev_goto f44_94 ?_
          refine ev_iinc (w := (x3 - 1)) (L' := [(2, (r0 : Int)), (0, a1), (0, a2), (0, (x3 - 1))]) rfl (by unfold w32; omega) rfl ?_
          refine ev_goto f44_7 ?_
          exact ih _ _ g9761 k9761 (by omega) (by omega) (by omega) (by omega) (by omega) (by omega) (by omega) (by omega)
        · refine ev_aload_n rfl ?_
          refine ev_iload_n rfl ?_
          refine ev_iconst ?_
          refine ev_lconst ?_
          refine ev_call (jcall_v (A := [(1, 0), (0, (-1)), (0, x3)]) (S' := [(0, x3), (2, ((r0 + 9 : Nat) : Int))]) (r := r0) rfl (g1.qlt q0) (g1.qtg q0) (Nat.le_of_ble_eq_true rfl)) (jOk_le (by decide) (s45 g1 q0 (by omega) (by omega) (by omega) (by omega) (by omega) (by omega))) (by decide) (by decide) (fun w9762 h9762 q9762 => ?_)
          obtain ⟨v9763, rfl, lv9763, uv9763, g9762, kk9762⟩ := q9762
          have k9762 := k1.tr kk9762 (by decide)
          show jEv _ _ _ _ _ _ _ (_, [(2, (r0 : Int)), (0, a1), (0, a2), (0, x3)], [(0, v9763), (0, x3), (2, ((r0 + 9 : Nat) : Int))], _, _, _)
          refine ev_goto f44_46 ?_
          refine g_qiast g9762 q0 (c := 10) (by decide) (by decide) (by decide) (by omega) (by show x3 < m0; omega) rfl (by omega) (by omega) (fun h9764 e9764 g9764 => ?_)
          have k9764 := k9762.wr e9764 (inW_dyn rfl (by have := q0.1; omega))
          refine ev_aload_n rfl ?_
          refine g_qgetp g9764 q0 (c := 12) (by decide) (by decide) ft4_12 ?_
          refine ev_iload_n rfl ?_
          refine ev_aload_n rfl ?_
          refine g_qgetp g9764 q0 (c := 12) (by decide) (by decide) ft4_12 ?_
          refine ev_aload_n rfl ?_
          refine ev_iload_n rfl ?_
          refine ev_aload_n rfl ?_
          refine g_qgetp g9764 q0 (c := 10) (by decide) (by decide) ft4_10 ?_
          refine ev_iload_n rfl ?_
          refine g_qialdv (v := v9763) g9764 q0 (c := 10) (by decide) (by decide) (by decide) (by omega) (by show x3 < m0; omega) ((jw_eq e9764)) ?_
          refine ev_in (d := 1) (a := 0) (b := 0) (cd' := c30_0) (m := 3) (L0 := [(2, (r0 : Int)), (0, x3), (0, v9763)]) (jcall_v (A := [(0, v9763), (0, x3)]) (S' := [(2, ((r0 + 11 : Nat) : Int)), (0, x3), (2, ((r0 + 11 : Nat) : Int))]) (r := r0) rfl (g9764.qlt q0) (g9764.qtg q0) (Nat.le_of_ble_eq_true rfl)) (by decide) ml30 pp30 (Nat.le_of_ble_eq_true rfl) rfl (by decide) (by decide) ?_
          refine ev_aload_n rfl ?_
          refine g_qgetp g9764 q0 (c := 5) (by decide) (by decide) ft4_5 ?_
          refine ev_iconst ?_
          refine ev_iload_n rfl ?_
          refine ev_imul (r := (4 * x3)) (by unfold w32; omega) ?_
          refine ev_iload_n rfl ?_
          refine ev_iadd (r := (v9763 + 4 * x3)) (by unfold w32; omega) ?_
          refine g_qiald g9764 q0 (c := 5) (by decide) (by decide) (by decide) (by omega) (by show (v9763 + 4 * x3) < 4 * m0; omega) rfl (fun v9765 ev9765 lv9765 uv9765 => ?_)
          refine ev_ret rfl (by decide) (by decide) ?_
          show jEv _ _ _ _ _ _ _ (_, [(2, (r0 : Int)), (0, a1), (0, a2), (0, x3)], [(0, v9765), (2, ((r0 + 11 : Nat) : Int)), (0, x3), (2, ((r0 + 11 : Nat) : Int))], _, _, _)
          refine g_qlald g9764 q0 (c := 12) (by decide) (by decide) (by decide) (by omega) (by show v9765 < m0; omega) rfl (fun v9766 ev9766 lv9766 uv9766 => ?_)
          refine g_qlast g9764 q0 (c := 12) (by decide) (by decide) (by decide) (by omega) (by show x3 < m0; omega) rfl (by omega) (by omega) (fun h9767 e9767 g9767 => ?_)
          have k9767 := k9764.wr e9767 (inW_dyn rfl (by have := q0.1; omega))
          refine ev_goto f44_94 ?_
          refine ev_iinc (w := (x3 - 1)) (L' := [(2, (r0 : Int)), (0, a1), (0, a2), (0, (x3 - 1))]) rfl (by unfold w32; omega) rfl ?_
          refine ev_goto f44_7 ?_
          exact ih _ _ g9767 k9767 (by omega) (by omega) (by omega) (by omega) (by omega) (by omega) (by omega) (by omega)
set_option maxHeartbeats 4000000 in
theorem s44 {G : GH} {h : JH} (g : Gd G h) {r0 : Nat} {m0 : Int} (q0 : IsQ G r0 m0) {a1 : Int} (la1 : 0 ≤ a1) (ua1 : a1 ≤ 1) {a2 : Int} (la2 : 0 ≤ a2) (ua2 : a2 ≤ 1) : jOk 3 0 0 44 [(2, (r0 : Int)), (0, a1), (0, a2)] h (PI G [(1000000, 0)] h 1 (-9223372036854775808) 9223372036854775807) := by
  refine ⟨by decide, by rw [ml44]; exact Nat.le_of_ble_eq_true rfl, ?_⟩
  rw [ml44, pp44]
  show jEv _ none _ c44_0 0 0 _ (c44_0, [(2, (r0 : Int)), (0, a1), (0, a2), (9, 0)], [], h, 0, 0)
  have k0 := Kp.rf [(1000000, 0)] h
  have wr0 := g.qb q0
  have zr0 := q0.1
  refine ev_aload_n rfl ?_
  obtain ⟨v9768, ev9768, lv9768, uv9768⟩ := g.q0 q0
  refine g_qgetv (v := v9768) g q0 ft4_0 ev9768 ?_
  refine ev_iconst ?_
  refine ev_isub (r := (v9768 - 1)) (by unfold w32; omega) ?_
  refine ev_istore_n (L' := [(2, (r0 : Int)), (0, a1), (0, a2), (0, (v9768 - 1))]) (Nat.le_of_ble_eq_true rfl) rfl ?_
  exact (s44_l q0 la1 ua1 la2 ua2 202) _ _ g k0 (by omega) (by omega) (by omega) (by omega) (by omega) (by omega) (by omega) (by omega)
/-! 47 bestWorth -/
set_option maxHeartbeats 4000000 in
theorem s47 {G : GH} {h : JH} (g : Gd G h) {r0 : Nat} {m0 : Int} (q0 : IsQ G r0 m0) {f2 : Nat} (q2 : IsF G f2) {a3 : Int} (la3 : (-2147483648) ≤ a3) (ua3 : a3 ≤ 2147483647) : jOk 5 0 0 47 [(2, (r0 : Int)), (2, 1), (2, (f2 : Int)), (0, a3)] h (PI G [(1000000, 0)] h 1 (-9223372036854775808) 9223372036854775807) := by
  refine ⟨by decide, by rw [ml47]; exact Nat.le_of_ble_eq_true rfl, ?_⟩
  rw [ml47, pp47]
  show jEv _ none _ c47_0 0 0 _ (c47_0, [(2, (r0 : Int)), (2, 1), (2, (f2 : Int)), (0, a3)], [], h, 0, 0)
  have k0 := Kp.rf [(1000000, 0)] h
  have wr0 := g.qb q0
  have zr0 := q0.1
  refine ev_aload_n rfl ?_
  refine ev_aload_n rfl ?_
  refine ev_aload_n rfl ?_
  refine ev_iload_n rfl ?_
  refine ev_call (jcall_v (A := [(0, a3), (2, (f2 : Int)), (2, 1)]) (S' := []) (r := r0) rfl (g.qlt q0) (g.qtg q0) (Nat.le_of_ble_eq_true rfl)) (jOk_le (by decide) (s43 g q0 q2 (by omega) (by omega))) (by decide) (by decide) (fun w9779 h9779 q9779 => ?_)
  obtain ⟨rfl, g9779, kk9779⟩ := q9779
  have k9779 := k0.tr kk9779 (by decide)
  show jEv _ _ _ _ _ _ _ (_, [(2, (r0 : Int)), (2, 1), (2, (f2 : Int)), (0, a3)], [], _, _, _)
  refine ev_aload_n rfl ?_
  refine ev_aload_n rfl ?_
  refine ev_callF (A := []) (S' := [(2, (r0 : Int))]) (r := f2) rfl (g9779.flt q2) (g9779.ffam q2) (Nat.le_of_ble_eq_true rfl) (famL (by decide) (fam_fearsWorst g9779 q2)) (by decide) (by decide) (fun w9780 h9780 q9780 => ?_)
  obtain ⟨v9781, rfl, lv9781, uv9781, g9780, kk9780⟩ := q9780
  have k9780 := k9779.tr kk9780 (by decide)
  show jEv _ _ _ _ _ _ _ (_, [(2, (r0 : Int)), (2, 1), (2, (f2 : Int)), (0, a3)], [(0, v9781), (2, (r0 : Int))], _, _, _)
  refine ev_iconst ?_
  refine ev_call (jcall_v (A := [(0, 1), (0, v9781)]) (S' := []) (r := r0) rfl (g9780.qlt q0) (g9780.qtg q0) (Nat.le_of_ble_eq_true rfl)) (jOk_le (by decide) (s44 g9780 q0 (by omega) (by omega) (by omega) (by omega))) (by decide) (by decide) (fun w9782 h9782 q9782 => ?_)
  obtain ⟨v9783, rfl, lv9783, uv9783, g9782, kk9782⟩ := q9782
  have k9782 := k9780.tr kk9782 (by decide)
  show jEv _ _ _ _ _ _ _ (_, [(2, (r0 : Int)), (2, 1), (2, (f2 : Int)), (0, a3)], [(1, v9783)], _, _, _)
  exact ev_ret rfl (by decide) (by decide) ⟨_, rfl, by omega, by omega, g9782, k9782⟩
/-! 49 judgedRise -/
set_option maxHeartbeats 4000000 in
theorem s49 {G : GH} {h : JH} (g : Gd G h) {r0 : Nat} {m0 : Int} (q0 : IsQ G r0 m0) {f1 : Nat} (q1 : IsF G f1) : jOk 4 0 0 49 [(2, (r0 : Int)), (2, (f1 : Int))] h (PI G [(1000000, 0)] h 1 (-9223372036854775808) 9223372036854775807) := by
  refine ⟨by decide, by rw [ml49]; exact Nat.le_of_ble_eq_true rfl, ?_⟩
  rw [ml49, pp49]
  show jEv _ none _ c49_0 0 0 _ (c49_0, [(2, (r0 : Int)), (2, (f1 : Int))], [], h, 0, 0)
  have k0 := Kp.rf [(1000000, 0)] h
  have wr0 := g.qb q0
  have zr0 := q0.1
  refine ev_aload_n rfl ?_
  refine ev_aload_n rfl ?_
  refine ev_callF (A := []) (S' := [(2, (r0 : Int))]) (r := f1) rfl (g.flt q1) (g.ffam q1) (Nat.le_of_ble_eq_true rfl) (famL (by decide) (fam_fearsWorst g q1)) (by decide) (by decide) (fun w9792 h9792 q9792 => ?_)
  obtain ⟨v9793, rfl, lv9793, uv9793, g9792, kk9792⟩ := q9792
  have k9792 := k0.tr kk9792 (by decide)
  show jEv _ _ _ _ _ _ _ (_, [(2, (r0 : Int)), (2, (f1 : Int))], [(0, v9793), (2, (r0 : Int))], _, _, _)
  refine ev_iconst ?_
  refine ev_call (jcall_v (A := [(0, 0), (0, v9793)]) (S' := []) (r := r0) rfl (g9792.qlt q0) (g9792.qtg q0) (Nat.le_of_ble_eq_true rfl)) (jOk_le (by decide) (s44 g9792 q0 (by omega) (by omega) (by omega) (by omega))) (by decide) (by decide) (fun w9794 h9794 q9794 => ?_)
  obtain ⟨v9795, rfl, lv9795, uv9795, g9794, kk9794⟩ := q9794
  have k9794 := k9792.tr kk9794 (by decide)
  show jEv _ _ _ _ _ _ _ (_, [(2, (r0 : Int)), (2, (f1 : Int))], [(1, v9795)], _, _, _)
  exact ev_ret rfl (by decide) (by decide) ⟨_, rfl, by omega, by omega, g9794, k9794⟩
/-! 48 judgedWorth -/
set_option maxHeartbeats 4000000 in
theorem s48 {G : GH} {h : JH} (g : Gd G h) {r0 : Nat} {m0 : Int} (q0 : IsQ G r0 m0) {f2 : Nat} (q2 : IsF G f2) : jOk 5 0 0 48 [(2, (r0 : Int)), (2, 1), (2, (f2 : Int))] h (PI G [(1000000, 0)] h 1 (-9223372036854775808) 9223372036854775807) := by
  refine ⟨by decide, by rw [ml48]; exact Nat.le_of_ble_eq_true rfl, ?_⟩
  rw [ml48, pp48]
  show jEv _ none _ c48_0 0 0 _ (c48_0, [(2, (r0 : Int)), (2, 1), (2, (f2 : Int))], [], h, 0, 0)
  have k0 := Kp.rf [(1000000, 0)] h
  have wr0 := g.qb q0
  have zr0 := q0.1
  refine ev_aload_n rfl ?_
  refine ev_aload_n rfl ?_
  refine ev_aload_n rfl ?_
  refine ev_iconst ?_
  refine ev_call (jcall_v (A := [(0, 0), (2, (f2 : Int)), (2, 1)]) (S' := []) (r := r0) rfl (g.qlt q0) (g.qtg q0) (Nat.le_of_ble_eq_true rfl)) (jOk_le (by decide) (s43 g q0 q2 (by omega) (by omega))) (by decide) (by decide) (fun w9802 h9802 q9802 => ?_)
  obtain ⟨rfl, g9802, kk9802⟩ := q9802
  have k9802 := k0.tr kk9802 (by decide)
  show jEv _ _ _ _ _ _ _ (_, [(2, (r0 : Int)), (2, 1), (2, (f2 : Int))], [], _, _, _)
  refine ev_aload_n rfl ?_
  refine ev_aload_n rfl ?_
  refine ev_call (jcall_v (A := [(2, (f2 : Int))]) (S' := []) (r := r0) rfl (g9802.qlt q0) (g9802.qtg q0) (Nat.le_of_ble_eq_true rfl)) (jOk_le (by decide) (s49 g9802 q0 q2)) (by decide) (by decide) (fun w9803 h9803 q9803 => ?_)
  obtain ⟨v9804, rfl, lv9804, uv9804, g9803, kk9803⟩ := q9803
  have k9803 := k9802.tr kk9803 (by decide)
  show jEv _ _ _ _ _ _ _ (_, [(2, (r0 : Int)), (2, 1), (2, (f2 : Int))], [(1, v9804)], _, _, _)
  exact ev_ret rfl (by decide) (by decide) ⟨_, rfl, by omega, by omega, g9803, k9803⟩
/-! 50 askedWorth -/
set_option maxHeartbeats 4000000 in
theorem s50_l {G : GH} {h : JH} {r0 : Nat} {m0 : Int} (q0 : IsQ G r0 m0) {f2 : Nat} (q2 : IsF G f2) {a3 : Int} (la3 : (-2147483648) ≤ a3) (ua3 : a3 ≤ 2147483647) {a4 : Int} (la4 : (-2147483648) ≤ a4) (ua4 : a4 ≤ 2147483647) : ∀ N : Nat, (∀ (h1 : JH) (x5 x7 : Int) (j8 : AV), Gd G h1 → Kp [(1000000, 0)] h h1 → (-2147483648) ≤ a3 → a3 ≤ 2147483647 → (-2147483648) ≤ a4 → a4 ≤ 2147483647 → (-9223372036854775808) ≤ x5 → x5 ≤ 9223372036854775807 → 1 ≤ x7 → x7 ≤ 4 → ((-8) * x7 + 36) < N → jEv (jOk 5) none (fun _ => 0) c50_0 0 0 (PI G [(1000000, 0)] h 1 (-9223372036854775808) 9223372036854775807) (c50_6, [(2, (r0 : Int)), (2, 1), (2, (f2 : Int)), (0, a3), (0, a4), (1, x5), (9, 0), (0, x7), j8], [], h1, 0, 0)) ∧ (∀ (h1 : JH) (x5 x7 x8 : Int), Gd G h1 → Kp [(1000000, 0)] h h1 → 0 ≤ a3 → a3 ≤ 3 → (-2147483648) ≤ a4 → a4 ≤ 2147483647 → (-9223372036854775808) ≤ x5 → x5 ≤ 9223372036854775807 → 1 ≤ x7 → x7 ≤ 3 → 1 ≤ x8 → x8 ≤ 4 → ((-8) * x7 + (-x8) + 36) < N → jEv (jOk 5) none (fun _ => 0) c50_0 0 0 (PI G [(1000000, 0)] h 1 (-9223372036854775808) 9223372036854775807) (c50_41, [(2, (r0 : Int)), (2, 1), (2, (f2 : Int)), (0, a3), (0, a4), (1, x5), (9, 0), (0, x7), (0, x8)], [], h1, 0, 0)) := by
  intro N
  induction N with
  | zero => exact ⟨fun h1 x5 x7 j8 g1 k1 b0 b1 b2 b3 b4 b5 b6 b7 hm => absurd hm (by omega), fun h1 x5 x7 x8 g1 k1 b0 b1 b2 b3 b4 b5 b6 b7 b8 b9 hm => absurd hm (by omega)⟩
  | succ N ih =>
    refine ⟨?_, ?_⟩
    · intro h1 x5 x7 j8 g1 k1 b0 b1 b2 b3 b4 b5 b6 b7 hm
      have wr0 := g1.qb q0
      have zr0 := q0.1
      refine ev_iload rfl ?_
      refine ev_aload_n rfl ?_
      refine ev_iload_n rfl ?_
      refine ev_in (d := 4) (a := 0) (b := 0) (cd' := c141_0) (m := 2) (L0 := [(2, 1), (0, a3)]) (jcall_v (A := [(0, a3)]) (S' := [(0, x7)]) (r := 1) rfl (g1.lt ad1) (g1.tg ad1) (Nat.le_of_ble_eq_true rfl)) (by decide) ml141 pp141 (Nat.le_of_ble_eq_true rfl) rfl (by decide) (by decide) ?_
      refine ev_aload_n rfl ?_
      refine ev_iload_n rfl ?_
      refine ev_in (d := 3) (a := 0) (b := 0) (cd' := c140_0) (m := 2) (L0 := [(2, 1), (0, a3)]) (jcall_v (A := [(0, a3)]) (S' := []) (r := 1) rfl (g1.lt ad1) (g1.tg ad1) (Nat.le_of_ble_eq_true rfl)) (by decide) ml140 pp140 (Nat.le_of_ble_eq_true rfl) rfl (by decide) (by decide) ?_
      refine ev_iload_n rfl ?_
      refine ev_iflt f140_16 (fun c9959 => ?_) (fun c9959 => ?_)
      · refine ev_iconst ?_
        refine ev_ret rfl (by decide) (by decide) ?_
        show jEv _ _ _ _ _ _ _ (_, [(2, 1), (0, a3)], [(0, 0)], _, _, _)
        refine ev_ifeq f141_17 (fun c9960 => ?_) (fun c9960 => absurd c9960 (by omega))
        refine ev_iconst ?_
        refine ev_ret rfl (by decide) (by decide) ?_
        show jEv _ _ _ _ _ _ _ (_, [(2, (r0 : Int)), (2, 1), (2, (f2 : Int)), (0, a3), (0, a4), (1, x5), (9, 0), (0, x7), j8], [(0, 0), (0, x7)], _, _, _)
        refine ev_icmpgt f50_89 (fun c9961 => ?_) (fun c9961 => absurd c9961 (by omega))
        refine ev_lload rfl ?_
        exact ev_ret rfl (by decide) (by decide) ⟨_, rfl, by omega, by omega, g1, k1⟩
      · refine ev_iload_n rfl ?_
        refine ev_aload_n rfl ?_
        obtain ⟨v9962, ev9962, lv9962, uv9962⟩ := g1.rd ad1 (show 0 < 8 by decide) rf1_0
        refine g_getv (r := 1) (v := v9962) g1 ad1 (by decide) ft10_0 ev9962 ?_
        refine ev_icmpge f140_16 (fun c9963 => ?_) (fun c9963 => ?_)
        · refine ev_iconst ?_
          refine ev_ret rfl (by decide) (by decide) ?_
          show jEv _ _ _ _ _ _ _ (_, [(2, 1), (0, a3)], [(0, 0)], _, _, _)
          refine ev_ifeq f141_17 (fun c9964 => ?_) (fun c9964 => absurd c9964 (by omega))
          refine ev_iconst ?_
          refine ev_ret rfl (by decide) (by decide) ?_
          show jEv _ _ _ _ _ _ _ (_, [(2, (r0 : Int)), (2, 1), (2, (f2 : Int)), (0, a3), (0, a4), (1, x5), (9, 0), (0, x7), j8], [(0, 0), (0, x7)], _, _, _)
          refine ev_icmpgt f50_89 (fun c9965 => ?_) (fun c9965 => absurd c9965 (by omega))
          refine ev_lload rfl ?_
          exact ev_ret rfl (by decide) (by decide) ⟨_, rfl, by omega, by omega, g1, k1⟩
        · refine ev_iconst ?_
          refine ev_goto f140_17 ?_
          refine ev_ret rfl (by decide) (by decide) ?_
          show jEv _ _ _ _ _ _ _ (_, [(2, 1), (0, a3)], [(0, 1)], _, _, _)
          refine ev_ifeq f141_17 (fun c9966 => absurd c9966 (by omega)) (fun c9966 => ?_)
          refine ev_aload_n rfl ?_
          refine g_getp (r := 1) (c := 2) g1 ad1 (by decide) (by decide) rf1_3 ft10_3 ?_
          refine ev_iload_n rfl ?_
          refine g_iald g1 ad2 rt2 (by omega) (by omega) (fun v9967 ev9967 lv9967 uv9967 => ?_)
          have xv9967 := (g1.ex.1.1 (a3 : Int).toNat (by rw [(ev9962)]; omega))
          rw [ev9967] at xv9967
          refine ev_goto f141_18 ?_
          refine ev_ret rfl (by decide) (by decide) ?_
          show jEv _ _ _ _ _ _ _ (_, [(2, (r0 : Int)), (2, 1), (2, (f2 : Int)), (0, a3), (0, a4), (1, x5), (9, 0), (0, x7), j8], [(0, v9967), (0, x7)], _, _, _)
          refine ev_icmpgt f50_89 (fun c9968 => ?_) (fun c9968 => ?_)
          · refine ev_lload rfl ?_
            exact ev_ret rfl (by decide) (by decide) ⟨_, rfl, by omega, by omega, g1, k1⟩
          · refine ev_iload rfl ?_
            refine ev_ifge f50_38 (fun c9969 => ?_) (fun c9969 => ?_)
            · refine ev_iconst ?_
              refine ev_istore (L' := [(2, (r0 : Int)), (2, 1), (2, (f2 : Int)), (0, a3), (0, a4), (1, x5), (9, 0), (0, x7), (0, 1)]) (Nat.le_of_ble_eq_true rfl) rfl ?_
              exact ih.2 _ _ _ _ g1 k1 (by omega) (by omega) (by omega) (by omega) (by omega) (by omega) (by omega) (by omega) (by omega) (by omega) (by omega)
            · refine ev_lload rfl ?_
              refine ev_aload_n rfl ?_
              refine ev_aload_n rfl ?_
              refine ev_aload_n rfl ?_
              refine ev_iload rfl ?_
              refine ev_iconst ?_
              refine ev_iload_n rfl ?_
              refine ev_imul (r := (2 * a3)) (by unfold w32; omega) ?_
              refine g_ishlB (a' := 1) (a := 3) (b := 6) (hi := 192) (by omega) (by omega) (by omega) (by omega) (by decide) (by decide) (fun v9970 ev9970 lv9970 uv9970 => ?_)
              refine ev_call (jcall_v (A := [(0, v9970), (2, (f2 : Int)), (2, 1)]) (S' := [(1, x5)]) (r := r0) rfl (g1.qlt q0) (g1.qtg q0) (Nat.le_of_ble_eq_true rfl)) (jOk_le (by decide) (s47 g1 q0 q2 (by omega) (by omega))) (by decide) (by decide) (fun w9971 h9971 q9971 => ?_)
              obtain ⟨v9972, rfl, lv9972, uv9972, g9971, kk9971⟩ := q9971
              have k9971 := k1.tr kk9971 (by decide)
              show jEv _ _ _ _ _ _ _ (_, [(2, (r0 : Int)), (2, 1), (2, (f2 : Int)), (0, a3), (0, a4), (1, x5), (9, 0), (0, x7), j8], [(1, v9972), (1, x5)], _, _, _)
              refine g_laddG (fun v9973 ev9973 lv9973 uv9973 => ?_)
              refine ev_lstore (L' := [(2, (r0 : Int)), (2, 1), (2, (f2 : Int)), (0, a3), (0, a4), (1, v9973), (9, 0), (0, x7), j8]) (Nat.le_of_ble_eq_true rfl) rfl ?_
              refine ev_iconst ?_
              refine ev_istore (L' := [(2, (r0 : Int)), (2, 1), (2, (f2 : Int)), (0, a3), (0, a4), (1, v9973), (9, 0), (0, x7), (0, 1)]) (Nat.le_of_ble_eq_true rfl) rfl ?_
              exact ih.2 _ _ _ _ g9971 k9971 (by omega) (by omega) (by omega) (by omega) (by omega) (by omega) (by omega) (by omega) (by omega) (by omega) (by omega)
    · intro h1 x5 x7 x8 g1 k1 b0 b1 b2 b3 b4 b5 b6 b7 b8 b9 hm
      have wr0 := g1.qb q0
      have zr0 := q0.1
      refine ev_iload rfl ?_
      refine ev_aload_n rfl ?_
      refine ev_iload rfl ?_
      refine ev_in (d := 4) (a := 0) (b := 0) (cd' := c141_0) (m := 2) (L0 := [(2, 1), (0, a4)]) (jcall_v (A := [(0, a4)]) (S' := [(0, x8)]) (r := 1) rfl (g1.lt ad1) (g1.tg ad1) (Nat.le_of_ble_eq_true rfl)) (by decide) ml141 pp141 (Nat.le_of_ble_eq_true rfl) rfl (by decide) (by decide) ?_
      refine ev_aload_n rfl ?_
      refine ev_iload_n rfl ?_
      refine ev_in (d := 3) (a := 0) (b := 0) (cd' := c140_0) (m := 2) (L0 := [(2, 1), (0, a4)]) (jcall_v (A := [(0, a4)]) (S' := []) (r := 1) rfl (g1.lt ad1) (g1.tg ad1) (Nat.le_of_ble_eq_true rfl)) (by decide) ml140 pp140 (Nat.le_of_ble_eq_true rfl) rfl (by decide) (by decide) ?_
      refine ev_iload_n rfl ?_
      refine ev_iflt f140_16 (fun c9974 => ?_) (fun c9974 => ?_)
      · refine ev_iconst ?_
        refine ev_ret rfl (by decide) (by decide) ?_
        show jEv _ _ _ _ _ _ _ (_, [(2, 1), (0, a4)], [(0, 0)], _, _, _)
        refine ev_ifeq f141_17 (fun c9975 => ?_) (fun c9975 => absurd c9975 (by omega))
        refine ev_iconst ?_
        refine ev_ret rfl (by decide) (by decide) ?_
        show jEv _ _ _ _ _ _ _ (_, [(2, (r0 : Int)), (2, 1), (2, (f2 : Int)), (0, a3), (0, a4), (1, x5), (9, 0), (0, x7), (0, x8)], [(0, 0), (0, x8)], _, _, _)
        refine ev_icmpgt f50_83 (fun c9976 => ?_) (fun c9976 => absurd c9976 (by omega))
        refine ev_iinc (w := (x7 + 1)) (L' := [(2, (r0 : Int)), (2, 1), (2, (f2 : Int)), (0, a3), (0, a4), (1, x5), (9, 0), (0, (x7 + 1)), (0, x8)]) rfl (by unfold w32; omega) rfl ?_
        refine ev_goto f50_6 ?_
        exact ih.1 _ _ _ _ g1 k1 (by omega) (by omega) (by omega) (by omega) (by omega) (by omega) (by omega) (by omega) (by omega)
      · refine ev_iload_n rfl ?_
        refine ev_aload_n rfl ?_
        obtain ⟨v9977, ev9977, lv9977, uv9977⟩ := g1.rd ad1 (show 0 < 8 by decide) rf1_0
        refine g_getv (r := 1) (v := v9977) g1 ad1 (by decide) ft10_0 ev9977 ?_
        refine ev_icmpge f140_16 (fun c9978 => ?_) (fun c9978 => ?_)
        · refine ev_iconst ?_
          refine ev_ret rfl (by decide) (by decide) ?_
          show jEv _ _ _ _ _ _ _ (_, [(2, 1), (0, a4)], [(0, 0)], _, _, _)
          refine ev_ifeq f141_17 (fun c9979 => ?_) (fun c9979 => absurd c9979 (by omega))
          refine ev_iconst ?_
          refine ev_ret rfl (by decide) (by decide) ?_
          show jEv _ _ _ _ _ _ _ (_, [(2, (r0 : Int)), (2, 1), (2, (f2 : Int)), (0, a3), (0, a4), (1, x5), (9, 0), (0, x7), (0, x8)], [(0, 0), (0, x8)], _, _, _)
          refine ev_icmpgt f50_83 (fun c9980 => ?_) (fun c9980 => absurd c9980 (by omega))
          refine ev_iinc (w := (x7 + 1)) (L' := [(2, (r0 : Int)), (2, 1), (2, (f2 : Int)), (0, a3), (0, a4), (1, x5), (9, 0), (0, (x7 + 1)), (0, x8)]) rfl (by unfold w32; omega) rfl ?_
          refine ev_goto f50_6 ?_
          exact ih.1 _ _ _ _ g1 k1 (by omega) (by omega) (by omega) (by omega) (by omega) (by omega) (by omega) (by omega) (by omega)
        · refine ev_iconst ?_
          refine ev_goto f140_17 ?_
          refine ev_ret rfl (by decide) (by decide) ?_
          show jEv _ _ _ _ _ _ _ (_, [(2, 1), (0, a4)], [(0, 1)], _, _, _)
          refine ev_ifeq f141_17 (fun c9981 => absurd c9981 (by omega)) (fun c9981 => ?_)
          refine ev_aload_n rfl ?_
          refine g_getp (r := 1) (c := 2) g1 ad1 (by decide) (by decide) rf1_3 ft10_3 ?_
          refine ev_iload_n rfl ?_
          refine g_iald g1 ad2 rt2 (by omega) (by omega) (fun v9982 ev9982 lv9982 uv9982 => ?_)
          have xv9982 := (g1.ex.1.1 (a4 : Int).toNat (by rw [(ev9977)]; omega))
          rw [ev9982] at xv9982
          refine ev_goto f141_18 ?_
          refine ev_ret rfl (by decide) (by decide) ?_
          show jEv _ _ _ _ _ _ _ (_, [(2, (r0 : Int)), (2, 1), (2, (f2 : Int)), (0, a3), (0, a4), (1, x5), (9, 0), (0, x7), (0, x8)], [(0, v9982), (0, x8)], _, _, _)
          refine ev_icmpgt f50_83 (fun c9983 => ?_) (fun c9983 => ?_)
          · refine ev_iinc (w := (x7 + 1)) (L' := [(2, (r0 : Int)), (2, 1), (2, (f2 : Int)), (0, a3), (0, a4), (1, x5), (9, 0), (0, (x7 + 1)), (0, x8)]) rfl (by unfold w32; omega) rfl ?_
            refine ev_goto f50_6 ?_
            exact ih.1 _ _ _ _ g1 k1 (by omega) (by omega) (by omega) (by omega) (by omega) (by omega) (by omega) (by omega) (by omega)
          · refine ev_lload rfl ?_
            refine ev_aload_n rfl ?_
            refine ev_aload_n rfl ?_
            refine ev_aload_n rfl ?_
            refine ev_iload rfl ?_
            refine ev_iconst ?_
            refine ev_iload_n rfl ?_
            refine ev_imul (r := (2 * a3)) (by unfold w32; omega) ?_
            refine g_ishlB (a' := 1) (a := 3) (b := 6) (hi := 192) (by omega) (by omega) (by omega) (by omega) (by decide) (by decide) (fun v9984 ev9984 lv9984 uv9984 => ?_)
            refine ev_iload rfl ?_
            refine ev_iconst ?_
            refine ev_iload rfl ?_
            refine ev_imul (r := (2 * a4)) (by unfold w32; omega) ?_
            refine g_ishlB (a' := 1) (a := 3) (b := 6) (hi := 192) (by omega) (by omega) (by omega) (by omega) (by decide) (by decide) (fun v9985 ev9985 lv9985 uv9985 => ?_)
            refine g_iorB (k := 8) (hi := 255) (by decide) (by decide) (by omega) (by omega) (by omega) (by omega) (fun v9986 ev9986 lv9986 uv9986 => ?_)
            refine ev_call (jcall_v (A := [(0, v9986), (2, (f2 : Int)), (2, 1)]) (S' := [(1, x5)]) (r := r0) rfl (g1.qlt q0) (g1.qtg q0) (Nat.le_of_ble_eq_true rfl)) (jOk_le (by decide) (s47 g1 q0 q2 (by omega) (by omega))) (by decide) (by decide) (fun w9987 h9987 q9987 => ?_)
            obtain ⟨v9988, rfl, lv9988, uv9988, g9987, kk9987⟩ := q9987
            have k9987 := k1.tr kk9987 (by decide)
            show jEv _ _ _ _ _ _ _ (_, [(2, (r0 : Int)), (2, 1), (2, (f2 : Int)), (0, a3), (0, a4), (1, x5), (9, 0), (0, x7), (0, x8)], [(1, v9988), (1, x5)], _, _, _)
            refine g_laddG (fun v9989 ev9989 lv9989 uv9989 => ?_)
            refine ev_lstore (L' := [(2, (r0 : Int)), (2, 1), (2, (f2 : Int)), (0, a3), (0, a4), (1, v9989), (9, 0), (0, x7), (0, x8)]) (Nat.le_of_ble_eq_true rfl) rfl ?_
            refine ev_iinc (w := (x8 + 1)) (L' := [(2, (r0 : Int)), (2, 1), (2, (f2 : Int)), (0, a3), (0, a4), (1, v9989), (9, 0), (0, x7), (0, (x8 + 1))]) rfl (by unfold w32; omega) rfl ?_
            refine ev_goto f50_41 ?_
            exact ih.2 _ _ _ _ g9987 k9987 (by omega) (by omega) (by omega) (by omega) (by omega) (by omega) (by omega) (by omega) (by omega) (by omega) (by omega)
set_option maxHeartbeats 4000000 in
theorem s50 {G : GH} {h : JH} (g : Gd G h) {r0 : Nat} {m0 : Int} (q0 : IsQ G r0 m0) {f2 : Nat} (q2 : IsF G f2) {a3 : Int} (la3 : (-2147483648) ≤ a3) (ua3 : a3 ≤ 2147483647) {a4 : Int} (la4 : (-2147483648) ≤ a4) (ua4 : a4 ≤ 2147483647) : jOk 6 0 0 50 [(2, (r0 : Int)), (2, 1), (2, (f2 : Int)), (0, a3), (0, a4)] h (PI G [(1000000, 0)] h 1 (-9223372036854775808) 9223372036854775807) := by
  refine ⟨by decide, by rw [ml50]; exact Nat.le_of_ble_eq_true rfl, ?_⟩
  rw [ml50, pp50]
  show jEv _ none _ c50_0 0 0 _ (c50_0, [(2, (r0 : Int)), (2, 1), (2, (f2 : Int)), (0, a3), (0, a4), (9, 0), (9, 0), (9, 0), (9, 0)], [], h, 0, 0)
  have k0 := Kp.rf [(1000000, 0)] h
  have wr0 := g.qb q0
  have zr0 := q0.1
  refine ev_lconst ?_
  refine ev_lstore (L' := [(2, (r0 : Int)), (2, 1), (2, (f2 : Int)), (0, a3), (0, a4), (1, 0), (9, 0), (9, 0), (9, 0)]) (Nat.le_of_ble_eq_true rfl) rfl ?_
  refine ev_iconst ?_
  refine ev_istore (L' := [(2, (r0 : Int)), (2, 1), (2, (f2 : Int)), (0, a3), (0, a4), (1, 0), (9, 0), (0, 1), (9, 0)]) (Nat.le_of_ble_eq_true rfl) rfl ?_
  exact (s50_l q0 q2 la3 ua3 la4 ua4 64).1 _ _ _ _ g k0 (by omega) (by omega) (by omega) (by omega) (by omega) (by omega) (by omega) (by omega) (by omega)
/-! 52 greatestValue -/
set_option maxHeartbeats 4000000 in
theorem s52_l {G : GH} {h : JH} {r0 : Nat} {m0 : Int} (q0 : IsQ G r0 m0) {a1 : Int} (la1 : (-2147483648) ≤ a1) (ua1 : a1 ≤ 2147483647) : ∀ N : Nat, (∀ (h1 : JH) (x2 : Int), Gd G h1 → Kp [(1000000, 0)] h h1 → (-2147483648) ≤ a1 → a1 ≤ 2147483647 → (-1) ≤ x2 → x2 ≤ 99 → x2 ≤ m0 - 1 → (x2 + 1) < N → jEv (jOk 2) none (fun _ => 0) c52_0 0 0 (PI G [(1000000, 0)] h 0 (-2147483648) 2147483647) (c52_7, [(2, (r0 : Int)), (0, a1), (0, x2)], [], h1, 0, 0)) := by
  intro N
  induction N with
  | zero => exact fun h1 x2 g1 k1 b0 b1 b2 b3 b4 hm => absurd hm (by omega)
  | succ N ih =>
    show _
    intro h1 x2 g1 k1 b0 b1 b2 b3 b4 hm
    have wr0 := g1.qb q0
    have zr0 := q0.1
    refine ev_iload_n rfl ?_
    refine ev_iflt f52_113 (fun c10036 => ?_) (fun c10036 => ?_)
    · refine ev_aload_n rfl ?_
      refine g_qgetp g1 q0 (c := 12) (by decide) (by decide) ft4_12 ?_
      refine ev_iconst ?_
      refine g_qlald g1 q0 (c := 12) (by decide) (by decide) (by decide) (by omega) (by show 0 < m0; omega) rfl (fun v10037 ev10037 lv10037 uv10037 => ?_)
      refine g_l2iG (fun v10038 ev10038 lv10038 uv10038 => ?_)
      exact ev_ret rfl (by decide) (by decide) ⟨_, rfl, by omega, by omega, g1, k1⟩
    · refine ev_aload_n rfl ?_
      refine g_qgetp g1 q0 (c := 2) (by decide) (by decide) ft4_2 ?_
      refine ev_iload_n rfl ?_
      refine g_qiald g1 q0 (c := 2) (by decide) (by decide) (by decide) (by omega) (by show x2 < m0; omega) rfl (fun v10039 ev10039 lv10039 uv10039 => ?_)
      refine ev_ifne f52_43 (fun c10040 => ?_) (fun c10040 => ?_)
      · refine ev_aload_n rfl ?_
        refine g_qgetp g1 q0 (c := 2) (by decide) (by decide) ft4_2 ?_
        refine ev_iload_n rfl ?_
        refine g_qialdv (v := v10039) g1 q0 (c := 2) (by decide) (by decide) (by decide) (by omega) (by show x2 < m0; omega) (ev10039) ?_
        refine ev_iconst ?_
        refine ev_icmpne f52_79 (fun c10041 => ?_) (fun c10041 => ?_)
        · refine ev_aload_n rfl ?_
          refine g_qgetp g1 q0 (c := 12) (by decide) (by decide) ft4_12 ?_
          refine ev_iload_n rfl ?_
          refine ev_aload_n rfl ?_
          refine g_qgetp g1 q0 (c := 12) (by decide) (by decide) ft4_12 ?_
          refine ev_aload_n rfl ?_
          refine ev_iload_n rfl ?_
          refine ev_iload_n rfl ?_
          refine ev_iconst ?_
          refine ev_aload_n rfl ?_
          refine g_qgetp g1 q0 (c := 3) (by decide) (by decide) ft4_3 ?_
          refine ev_iload_n rfl ?_
          refine g_qiald g1 q0 (c := 3) (by decide) (by decide) (by decide) (by omega) (by show x2 < m0; omega) rfl (fun v10042 ev10042 lv10042 uv10042 => ?_)
          refine g_imulG (fun v10043 ev10043 lv10043 uv10043 => ?_)
          refine g_ishrG (fun v10044 ev10044 lv10044 uv10044 => ?_)
          refine ev_iconst ?_
          refine g_iandB (b := 3) (by omega) (by omega) (by decide) (fun v10045 ev10045 lv10045 uv10045 => ?_)
          refine ev_in (d := 1) (a := 0) (b := 0) (cd' := c30_0) (m := 3) (L0 := [(2, (r0 : Int)), (0, x2), (0, v10045)]) (jcall_v (A := [(0, v10045), (0, x2)]) (S' := [(2, ((r0 + 11 : Nat) : Int)), (0, x2), (2, ((r0 + 11 : Nat) : Int))]) (r := r0) rfl (g1.qlt q0) (g1.qtg q0) (Nat.le_of_ble_eq_true rfl)) (by decide) ml30 pp30 (Nat.le_of_ble_eq_true rfl) rfl (by decide) (by decide) ?_
          refine ev_aload_n rfl ?_
          refine g_qgetp g1 q0 (c := 5) (by decide) (by decide) ft4_5 ?_
          refine ev_iconst ?_
          refine ev_iload_n rfl ?_
          refine ev_imul (r := (4 * x2)) (by unfold w32; omega) ?_
          refine ev_iload_n rfl ?_
          refine ev_iadd (r := (v10045 + 4 * x2)) (by unfold w32; omega) ?_
          refine g_qiald g1 q0 (c := 5) (by decide) (by decide) (by decide) (by omega) (by show (v10045 + 4 * x2) < 4 * m0; omega) rfl (fun v10046 ev10046 lv10046 uv10046 => ?_)
          refine ev_ret rfl (by decide) (by decide) ?_
          show jEv _ _ _ _ _ _ _ (_, [(2, (r0 : Int)), (0, a1), (0, x2)], [(0, v10046), (2, ((r0 + 11 : Nat) : Int)), (0, x2), (2, ((r0 + 11 : Nat) : Int))], _, _, _)
          refine g_qlald g1 q0 (c := 12) (by decide) (by decide) (by decide) (by omega) (by show v10046 < m0; omega) rfl (fun v10047 ev10047 lv10047 uv10047 => ?_)
          refine g_qlast g1 q0 (c := 12) (by decide) (by decide) (by decide) (by omega) (by show x2 < m0; omega) rfl (by omega) (by omega) (fun h10048 e10048 g10048 => ?_)
          have k10048 := k1.wr e10048 (inW_dyn rfl (by have := q0.1; omega))
          refine ev_iinc (w := (x2 - 1)) (L' := [(2, (r0 : Int)), (0, a1), (0, (x2 - 1))]) rfl (by unfold w32; omega) rfl ?_
          refine ev_goto f52_7 ?_
          exact ih _ _ g10048 k10048 (by omega) (by omega) (by omega) (by omega) (by omega) (by omega)
        · refine ev_aload_n rfl ?_
          refine g_qgetp g1 q0 (c := 12) (by decide) (by decide) ft4_12 ?_
          refine ev_iload_n rfl ?_
          refine ev_aload_n rfl ?_
          refine g_qgetp g1 q0 (c := 12) (by decide) (by decide) ft4_12 ?_
          refine ev_aload_n rfl ?_
          refine ev_iload_n rfl ?_
          refine ev_aload_n rfl ?_
          refine ev_iload_n rfl ?_
          refine ev_iconst ?_
          refine ev_lconst ?_
          refine ev_call (jcall_v (A := [(1, 0), (0, (-1)), (0, x2)]) (S' := [(0, x2), (2, (r0 : Int)), (2, ((r0 + 11 : Nat) : Int)), (0, x2), (2, ((r0 + 11 : Nat) : Int))]) (r := r0) rfl (g1.qlt q0) (g1.qtg q0) (Nat.le_of_ble_eq_true rfl)) (jOk_le (by decide) (s45 g1 q0 (by omega) (by omega) (by omega) (by omega) (by omega) (by omega))) (by decide) (by decide) (fun w10049 h10049 q10049 => ?_)
          obtain ⟨v10050, rfl, lv10050, uv10050, g10049, kk10049⟩ := q10049
          have k10049 := k1.tr kk10049 (by decide)
          show jEv _ _ _ _ _ _ _ (_, [(2, (r0 : Int)), (0, a1), (0, x2)], [(0, v10050), (0, x2), (2, (r0 : Int)), (2, ((r0 + 11 : Nat) : Int)), (0, x2), (2, ((r0 + 11 : Nat) : Int))], _, _, _)
          refine ev_in (d := 1) (a := 0) (b := 0) (cd' := c30_0) (m := 3) (L0 := [(2, (r0 : Int)), (0, x2), (0, v10050)]) (jcall_v (A := [(0, v10050), (0, x2)]) (S' := [(2, ((r0 + 11 : Nat) : Int)), (0, x2), (2, ((r0 + 11 : Nat) : Int))]) (r := r0) rfl (g10049.qlt q0) (g10049.qtg q0) (Nat.le_of_ble_eq_true rfl)) (by decide) ml30 pp30 (Nat.le_of_ble_eq_true rfl) rfl (by decide) (by decide) ?_
          refine ev_aload_n rfl ?_
          refine g_qgetp g10049 q0 (c := 5) (by decide) (by decide) ft4_5 ?_
          refine ev_iconst ?_
          refine ev_iload_n rfl ?_
          refine ev_imul (r := (4 * x2)) (by unfold w32; omega) ?_
          refine ev_iload_n rfl ?_
          refine ev_iadd (r := (v10050 + 4 * x2)) (by unfold w32; omega) ?_
          refine g_qiald g10049 q0 (c := 5) (by decide) (by decide) (by decide) (by omega) (by show (v10050 + 4 * x2) < 4 * m0; omega) rfl (fun v10051 ev10051 lv10051 uv10051 => ?_)
          refine ev_ret rfl (by decide) (by decide) ?_
          show jEv _ _ _ _ _ _ _ (_, [(2, (r0 : Int)), (0, a1), (0, x2)], [(0, v10051), (2, ((r0 + 11 : Nat) : Int)), (0, x2), (2, ((r0 + 11 : Nat) : Int))], _, _, _)
          refine g_qlald g10049 q0 (c := 12) (by decide) (by decide) (by decide) (by omega) (by show v10051 < m0; omega) rfl (fun v10052 ev10052 lv10052 uv10052 => ?_)
          refine g_qlast g10049 q0 (c := 12) (by decide) (by decide) (by decide) (by omega) (by show x2 < m0; omega) rfl (by omega) (by omega) (fun h10053 e10053 g10053 => ?_)
          have k10053 := k10049.wr e10053 (inW_dyn rfl (by have := q0.1; omega))
          refine ev_goto f52_107 ?_
          refine ev_iinc (w := (x2 - 1)) (L' := [(2, (r0 : Int)), (0, a1), (0, (x2 - 1))]) rfl (by unfold w32; omega) rfl ?_
          refine ev_goto f52_7 ?_
          exact ih _ _ g10053 k10053 (by omega) (by omega) (by omega) (by omega) (by omega) (by omega)
      · refine ev_aload_n rfl ?_
        refine g_qgetp g1 q0 (c := 12) (by decide) (by decide) ft4_12 ?_
        refine ev_iload_n rfl ?_
        refine ev_aload_n rfl ?_
        refine g_qgetp g1 q0 (c := 3) (by decide) (by decide) ft4_3 ?_
        refine ev_iload_n rfl ?_
        refine g_qiald g1 q0 (c := 3) (by decide) (by decide) (by decide) (by omega) (by show x2 < m0; omega) rfl (fun v10054 ev10054 lv10054 uv10054 => ?_)
        refine ev_aload_n rfl ?_
        refine g_qgetp g1 q0 (c := 11) (by decide) (by decide) ft4_11 ?_
        refine ev_iload_n rfl ?_
        refine g_qiald g1 q0 (c := 11) (by decide) (by decide) (by decide) (by omega) (by show x2 < m0; omega) rfl (fun v10055 ev10055 lv10055 uv10055 => ?_)
        refine g_isubG (fun v10056 ev10056 lv10056 uv10056 => ?_)
        refine ev_i2l ?_
        refine g_qlast g1 q0 (c := 12) (by decide) (by decide) (by decide) (by omega) (by show x2 < m0; omega) rfl (by omega) (by omega) (fun h10057 e10057 g10057 => ?_)
        have k10057 := k1.wr e10057 (inW_dyn rfl (by have := q0.1; omega))
        refine ev_goto f52_107 ?_
        refine ev_iinc (w := (x2 - 1)) (L' := [(2, (r0 : Int)), (0, a1), (0, (x2 - 1))]) rfl (by unfold w32; omega) rfl ?_
        refine ev_goto f52_7 ?_
        exact ih _ _ g10057 k10057 (by omega) (by omega) (by omega) (by omega) (by omega) (by omega)
set_option maxHeartbeats 4000000 in
theorem s52 {G : GH} {h : JH} (g : Gd G h) {r0 : Nat} {m0 : Int} (q0 : IsQ G r0 m0) {a1 : Int} (la1 : (-2147483648) ≤ a1) (ua1 : a1 ≤ 2147483647) : jOk 3 0 0 52 [(2, (r0 : Int)), (0, a1)] h (PI G [(1000000, 0)] h 0 (-2147483648) 2147483647) := by
  refine ⟨by decide, by rw [ml52]; exact Nat.le_of_ble_eq_true rfl, ?_⟩
  rw [ml52, pp52]
  show jEv _ none _ c52_0 0 0 _ (c52_0, [(2, (r0 : Int)), (0, a1), (9, 0)], [], h, 0, 0)
  have k0 := Kp.rf [(1000000, 0)] h
  have wr0 := g.qb q0
  have zr0 := q0.1
  refine ev_aload_n rfl ?_
  obtain ⟨v10058, ev10058, lv10058, uv10058⟩ := g.q0 q0
  refine g_qgetv (v := v10058) g q0 ft4_0 ev10058 ?_
  refine ev_iconst ?_
  refine ev_isub (r := (v10058 - 1)) (by unfold w32; omega) ?_
  refine ev_istore_n (L' := [(2, (r0 : Int)), (0, a1), (0, (v10058 - 1))]) (Nat.le_of_ble_eq_true rfl) rfl ?_
  exact (s52_l q0 la1 ua1 202) _ _ g k0 (by omega) (by omega) (by omega) (by omega) (by omega) (by omega)
/-! 51 couldHave -/
set_option maxHeartbeats 4000000 in
theorem s51_l {G : GH} {h : JH} {r0 : Nat} {m0 : Int} (q0 : IsQ G r0 m0) {f2 : Nat} (q2 : IsF G f2) : ∀ N : Nat, (∀ (h1 : JH) (x3 x5 x6 : Int), Gd G h1 → Kp [(1000000, 0)] h h1 → (-9223372036854775808) ≤ x3 → x3 ≤ 9223372036854775807 → 0 ≤ x5 → x5 ≤ 85 → 0 ≤ x6 → x6 ≤ 256 → ((-x6) + 256) < N → jEv (jOk 3) none (fun _ => 0) c51_0 0 0 (PI G [(1000000, 0)] h 1 (-9223372036854775808) 9223372036854775807) (c51_15, [(2, (r0 : Int)), (2, 1), (2, (f2 : Int)), (1, x3), (9, 0), (0, x5), (0, x6)], [], h1, 0, 0)) := by
  intro N
  induction N with
  | zero => exact fun h1 x3 x5 x6 g1 k1 b0 b1 b2 b3 b4 b5 hm => absurd hm (by omega)
  | succ N ih =>
    show _
    intro h1 x3 x5 x6 g1 k1 b0 b1 b2 b3 b4 b5 hm
    have wr0 := g1.qb q0
    have zr0 := q0.1
    refine ev_iload rfl ?_
    refine ev_aload_n rfl ?_
    refine ev_in (d := 2) (a := 0) (b := 0) (cd' := c157_0) (m := 1) (L0 := [(2, 1)]) (jcall_v (A := []) (S' := [(0, x6)]) (r := 1) rfl (g1.lt ad1) (g1.tg ad1) (Nat.le_of_ble_eq_true rfl)) (by decide) ml157 pp157 (Nat.le_of_ble_eq_true rfl) rfl (by decide) (by decide) ?_
    refine ev_iconst ?_
    refine ev_iconst ?_
    refine ev_aload_n rfl ?_
    obtain ⟨v11044, ev11044, lv11044, uv11044⟩ := g1.rd ad1 (show 0 < 8 by decide) rf1_0
    refine g_getv (r := 1) (v := v11044) g1 ad1 (by decide) ft10_0 ev11044 ?_
    refine ev_imul (r := (2 * v11044)) (by unfold w32; omega) ?_
    refine g_ishlB (a' := 1) (a := 1) (b := 8) (hi := 256) (by omega) (by omega) (by omega) (by omega) (by decide) (by decide) (fun v11045 ev11045 lv11045 uv11045 => ?_)
    refine ev_ret rfl (by decide) (by decide) ?_
    show jEv _ _ _ _ _ _ _ (_, [(2, (r0 : Int)), (2, 1), (2, (f2 : Int)), (1, x3), (9, 0), (0, x5), (0, x6)], [(0, v11045), (0, x6)], _, _, _)
    refine ev_icmpge f51_63 (fun c11046 => ?_) (fun c11046 => ?_)
    · refine ev_lload_n rfl ?_
      exact ev_ret rfl (by decide) (by decide) ⟨_, rfl, by omega, by omega, g1, k1⟩
    · refine ev_aload_n rfl ?_
      refine ev_iload rfl ?_
      refine ev_call (jcall_v (A := [(0, x6)]) (S' := []) (r := 1) rfl (g1.lt ad1) (g1.tg ad1) (Nat.le_of_ble_eq_true rfl)) (jOk_le (by decide) (s159 g1 (by omega) (by omega))) (by decide) (by decide) (fun w11047 h11047 q11047 => ?_)
      obtain ⟨v11048, rfl, lv11048, uv11048, g11047, kk11047⟩ := q11047
      have k11047 := k1.tr kk11047 (by decide)
      show jEv _ _ _ _ _ _ _ (_, [(2, (r0 : Int)), (2, 1), (2, (f2 : Int)), (1, x3), (9, 0), (0, x5), (0, x6)], [(0, v11048)], _, _, _)
      refine ev_ifeq f51_57 (fun c11049 => ?_) (fun c11049 => ?_)
      · refine ev_iinc (w := (x6 + 1)) (L' := [(2, (r0 : Int)), (2, 1), (2, (f2 : Int)), (1, x3), (9, 0), (0, x5), (0, (x6 + 1))]) rfl (by unfold w32; omega) rfl ?_
        refine ev_goto f51_15 ?_
        exact ih _ _ _ _ g11047 k11047 (by omega) (by omega) (by omega) (by omega) (by omega) (by omega) (by omega)
      · refine ev_lload_n rfl ?_
        refine ev_aload_n rfl ?_
        refine ev_iload rfl ?_
        refine ev_iload rfl ?_
        refine ev_iadd (r := (x5 + x6)) (by unfold w32; omega) ?_
        refine ev_in (d := 2) (a := 0) (b := 0) (cd' := c161_0) (m := 2) (L0 := [(2, 1), (0, (x5 + x6))]) (jcall_v (A := [(0, (x5 + x6))]) (S' := [(1, x3)]) (r := 1) rfl (g11047.lt ad1) (g11047.tg ad1) (Nat.le_of_ble_eq_true rfl)) (by decide) ml161 pp161 (Nat.le_of_ble_eq_true rfl) rfl (by decide) (by decide) ?_
        refine ev_iload_n rfl ?_
        refine ev_iflt f161_12 (fun c11050 => absurd c11050 (by omega)) (fun c11050 => ?_)
        refine ev_iload_n rfl ?_
        refine ev_aload_n rfl ?_
        refine ev_in (d := 1) (a := 0) (b := 0) (cd' := c157_0) (m := 1) (L0 := [(2, 1)]) (jcall_v (A := []) (S' := [(0, (x5 + x6))]) (r := 1) rfl (g11047.lt ad1) (g11047.tg ad1) (Nat.le_of_ble_eq_true rfl)) (by decide) ml157 pp157 (Nat.le_of_ble_eq_true rfl) rfl (by decide) (by decide) ?_
        refine ev_iconst ?_
        refine ev_iconst ?_
        refine ev_aload_n rfl ?_
        refine g_getv (r := 1) (v := v11044) g11047 ad1 (by decide) ft10_0 (((kk11047.v (by decide)).trans ev11044)) ?_
        refine ev_imul (r := (2 * v11044)) (by unfold w32; omega) ?_
        refine g_ishlB (a' := 1) (a := 1) (b := 8) (hi := 256) (by omega) (by omega) (by omega) (by omega) (by decide) (by decide) (fun v11051 ev11051 lv11051 uv11051 => ?_)
        obtain rfl : v11045 = v11051 := by omega
        refine ev_ret rfl (by decide) (by decide) ?_
        show jEv _ _ _ _ _ _ _ (_, [(2, 1), (0, (x5 + x6))], [(0, v11045), (0, (x5 + x6))], _, _, _)
        refine ev_icmplt f161_16 (fun c11052 => ?_) (fun c11052 => ?_)
        · refine ev_aload_n rfl ?_
          refine g_getp (r := 1) (c := 6) g11047 ad1 (by decide) (by decide) rf1_7 ft10_7 ?_
          refine ev_iload_n rfl ?_
          refine g_lald g11047 ad6 rt6 (by omega) (by omega) (fun v11053 ev11053 lv11053 uv11053 => ?_)
          refine ev_ret rfl (by decide) (by decide) ?_
          show jEv _ _ _ _ _ _ _ (_, [(2, (r0 : Int)), (2, 1), (2, (f2 : Int)), (1, x3), (9, 0), (0, x5), (0, x6)], [(1, v11053), (1, x3)], _, _, _)
          refine ev_aload_n rfl ?_
          refine ev_aload_n rfl ?_
          refine ev_iload rfl ?_
          refine ev_call (jcall_v (A := [(0, x6)]) (S' := [(2, (f2 : Int)), (1, v11053), (1, x3)]) (r := r0) rfl (g11047.qlt q0) (g11047.qtg q0) (Nat.le_of_ble_eq_true rfl)) (jOk_le (by decide) (s52 g11047 q0 (by omega) (by omega))) (by decide) (by decide) (fun w11054 h11054 q11054 => ?_)
          obtain ⟨v11055, rfl, lv11055, uv11055, g11054, kk11054⟩ := q11054
          have k11054 := k11047.tr kk11054 (by decide)
          show jEv _ _ _ _ _ _ _ (_, [(2, (r0 : Int)), (2, 1), (2, (f2 : Int)), (1, x3), (9, 0), (0, x5), (0, x6)], [(0, v11055), (2, (f2 : Int)), (1, v11053), (1, x3)], _, _, _)
          refine ev_callF (A := [(0, v11055)]) (S' := [(1, v11053), (1, x3)]) (r := f2) rfl (g11054.flt q2) (g11054.ffam q2) (Nat.le_of_ble_eq_true rfl) (famL (by decide) (fam_measure g11054 q2 (by omega) (by omega))) (by decide) (by decide) (fun w11056 h11056 q11056 => ?_)
          obtain ⟨v11057, rfl, lv11057, uv11057, g11056, kk11056⟩ := q11056
          have k11056 := k11054.tr kk11056 (by decide)
          show jEv _ _ _ _ _ _ _ (_, [(2, (r0 : Int)), (2, 1), (2, (f2 : Int)), (1, x3), (9, 0), (0, x5), (0, x6)], [(0, v11057), (1, v11053), (1, x3)], _, _, _)
          refine ev_i2l ?_
          refine g_lmulG (fun v11058 ev11058 lv11058 uv11058 => ?_)
          refine g_laddG (fun v11059 ev11059 lv11059 uv11059 => ?_)
          refine ev_lstore_n (L' := [(2, (r0 : Int)), (2, 1), (2, (f2 : Int)), (1, v11059), (9, 0), (0, x5), (0, x6)]) (Nat.le_of_ble_eq_true rfl) rfl ?_
          refine ev_iinc (w := (x6 + 1)) (L' := [(2, (r0 : Int)), (2, 1), (2, (f2 : Int)), (1, v11059), (9, 0), (0, x5), (0, (x6 + 1))]) rfl (by unfold w32; omega) rfl ?_
          refine ev_goto f51_15 ?_
          exact ih _ _ _ _ g11056 k11056 (by omega) (by omega) (by omega) (by omega) (by omega) (by omega) (by omega)
        · refine ev_lconst ?_
          refine ev_goto f161_22 ?_
          refine ev_ret rfl (by decide) (by decide) ?_
          show jEv _ _ _ _ _ _ _ (_, [(2, (r0 : Int)), (2, 1), (2, (f2 : Int)), (1, x3), (9, 0), (0, x5), (0, x6)], [(1, 0), (1, x3)], _, _, _)
          refine ev_aload_n rfl ?_
          refine ev_aload_n rfl ?_
          refine ev_iload rfl ?_
          refine ev_call (jcall_v (A := [(0, x6)]) (S' := [(2, (f2 : Int)), (1, 0), (1, x3)]) (r := r0) rfl (g11047.qlt q0) (g11047.qtg q0) (Nat.le_of_ble_eq_true rfl)) (jOk_le (by decide) (s52 g11047 q0 (by omega) (by omega))) (by decide) (by decide) (fun w11060 h11060 q11060 => ?_)
          obtain ⟨v11061, rfl, lv11061, uv11061, g11060, kk11060⟩ := q11060
          have k11060 := k11047.tr kk11060 (by decide)
          show jEv _ _ _ _ _ _ _ (_, [(2, (r0 : Int)), (2, 1), (2, (f2 : Int)), (1, x3), (9, 0), (0, x5), (0, x6)], [(0, v11061), (2, (f2 : Int)), (1, 0), (1, x3)], _, _, _)
          refine ev_callF (A := [(0, v11061)]) (S' := [(1, 0), (1, x3)]) (r := f2) rfl (g11060.flt q2) (g11060.ffam q2) (Nat.le_of_ble_eq_true rfl) (famL (by decide) (fam_measure g11060 q2 (by omega) (by omega))) (by decide) (by decide) (fun w11062 h11062 q11062 => ?_)
          obtain ⟨v11063, rfl, lv11063, uv11063, g11062, kk11062⟩ := q11062
          have k11062 := k11060.tr kk11062 (by decide)
          show jEv _ _ _ _ _ _ _ (_, [(2, (r0 : Int)), (2, 1), (2, (f2 : Int)), (1, x3), (9, 0), (0, x5), (0, x6)], [(0, v11063), (1, 0), (1, x3)], _, _, _)
          refine ev_i2l ?_
          refine ev_lmul (r := 0) (by unfold w64; omega) ?_
          refine ev_ladd (r := x3) (by unfold w64; omega) ?_
          refine ev_lstore_n (L' := [(2, (r0 : Int)), (2, 1), (2, (f2 : Int)), (1, x3), (9, 0), (0, x5), (0, x6)]) (Nat.le_of_ble_eq_true rfl) rfl ?_
          refine ev_iinc (w := (x6 + 1)) (L' := [(2, (r0 : Int)), (2, 1), (2, (f2 : Int)), (1, x3), (9, 0), (0, x5), (0, (x6 + 1))]) rfl (by unfold w32; omega) rfl ?_
          refine ev_goto f51_15 ?_
          exact ih _ _ _ _ g11062 k11062 (by omega) (by omega) (by omega) (by omega) (by omega) (by omega) (by omega)
set_option maxHeartbeats 4000000 in
theorem s51 {G : GH} {h : JH} (g : Gd G h) {r0 : Nat} {m0 : Int} (q0 : IsQ G r0 m0) {f2 : Nat} (q2 : IsF G f2) : jOk 4 0 0 51 [(2, (r0 : Int)), (2, 1), (2, (f2 : Int))] h (PI G [(1000000, 0)] h 1 (-9223372036854775808) 9223372036854775807) := by
  refine ⟨by decide, by rw [ml51]; exact Nat.le_of_ble_eq_true rfl, ?_⟩
  rw [ml51, pp51]
  show jEv _ none _ c51_0 0 0 _ (c51_0, [(2, (r0 : Int)), (2, 1), (2, (f2 : Int)), (9, 0), (9, 0), (9, 0), (9, 0)], [], h, 0, 0)
  have k0 := Kp.rf [(1000000, 0)] h
  have wr0 := g.qb q0
  have zr0 := q0.1
  refine ev_lconst ?_
  refine ev_lstore_n (L' := [(2, (r0 : Int)), (2, 1), (2, (f2 : Int)), (1, 0), (9, 0), (9, 0), (9, 0)]) (Nat.le_of_ble_eq_true rfl) rfl ?_
  refine ev_aload_n rfl ?_
  refine ev_in (d := 2) (a := 0) (b := 0) (cd' := c157_0) (m := 1) (L0 := [(2, 1)]) (jcall_v (A := []) (S' := []) (r := 1) rfl (g.lt ad1) (g.tg ad1) (Nat.le_of_ble_eq_true rfl)) (by decide) ml157 pp157 (Nat.le_of_ble_eq_true rfl) rfl (by decide) (by decide) ?_
  refine ev_iconst ?_
  refine ev_iconst ?_
  refine ev_aload_n rfl ?_
  obtain ⟨v11064, ev11064, lv11064, uv11064⟩ := g.rd ad1 (show 0 < 8 by decide) rf1_0
  refine g_getv (r := 1) (v := v11064) g ad1 (by decide) ft10_0 ev11064 ?_
  refine ev_imul (r := (2 * v11064)) (by unfold w32; omega) ?_
  refine g_ishlB (a' := 1) (a := 1) (b := 8) (hi := 256) (by omega) (by omega) (by omega) (by omega) (by decide) (by decide) (fun v11065 ev11065 lv11065 uv11065 => ?_)
  refine ev_ret rfl (by decide) (by decide) ?_
  show jEv _ _ _ _ _ _ _ (_, [(2, (r0 : Int)), (2, 1), (2, (f2 : Int)), (1, 0), (9, 0), (9, 0), (9, 0)], [(0, v11065)], _, _, _)
  refine ev_iconst ?_
  refine ev_isub (r := (v11065 - 1)) (by unfold w32; omega) ?_
  refine ev_iconst ?_
  refine g_idivP (c := 3) rfl (by decide) (by omega) (by omega) (fun v11066 ev11066 lv11066 uv11066 => ?_)
  refine ev_istore (L' := [(2, (r0 : Int)), (2, 1), (2, (f2 : Int)), (1, 0), (9, 0), (0, v11066), (9, 0)]) (Nat.le_of_ble_eq_true rfl) rfl ?_
  refine ev_iconst ?_
  refine ev_istore (L' := [(2, (r0 : Int)), (2, 1), (2, (f2 : Int)), (1, 0), (9, 0), (0, v11066), (0, 0)]) (Nat.le_of_ble_eq_true rfl) rfl ?_
  exact (s51_l q0 q2 514) _ _ _ _ g k0 (by omega) (by omega) (by omega) (by omega) (by omega) (by omega) (by omega)
/-! 53 valueOfPlan -/
set_option maxHeartbeats 4000000 in
theorem s53_l {G : GH} {h : JH} {r0 : Nat} {m0 : Int} (q0 : IsQ G r0 m0) {a1 : Int} (la1 : (-2147483648) ≤ a1) (ua1 : a1 ≤ 2147483647) : ∀ N : Nat, (∀ (h1 : JH) (x2 x3 : Int), Gd G h1 → Kp [] h h1 → (-2147483648) ≤ a1 → a1 ≤ 2147483647 → 0 ≤ x2 → x2 ≤ 99 → x2 ≤ m0 - 1 → 0 ≤ x3 → x3 ≤ 100 → ((-x3) + 100) < N → jEv (jOk 1) none (fun _ => 0) c53_0 0 0 (PI G [] h 0 (-2147483648) 2147483647) (c53_4, [(2, (r0 : Int)), (0, a1), (0, x2), (0, x3)], [], h1, 0, 0)) := by
  intro N
  induction N with
  | zero => exact fun h1 x2 x3 g1 k1 b0 b1 b2 b3 b4 b5 b6 hm => absurd hm (by omega)
  | succ N ih =>
    show _
    intro h1 x2 x3 g1 k1 b0 b1 b2 b3 b4 b5 b6 hm
    have wr0 := g1.qb q0
    have zr0 := q0.1
    refine ev_iload_n rfl ?_
    refine ev_aload_n rfl ?_
    obtain ⟨v11769, ev11769, lv11769, uv11769⟩ := g1.q0 q0
    refine g_qgetv (v := v11769) g1 q0 ft4_0 ev11769 ?_
    refine ev_icmpge f53_64 (fun c11770 => ?_) (fun c11770 => ?_)
    · refine ev_aload_n rfl ?_
      refine g_qgetp g1 q0 (c := 3) (by decide) (by decide) ft4_3 ?_
      refine ev_iload_n rfl ?_
      refine g_qiald g1 q0 (c := 3) (by decide) (by decide) (by decide) (by omega) (by show x2 < m0; omega) rfl (fun v11771 ev11771 lv11771 uv11771 => ?_)
      refine ev_aload_n rfl ?_
      refine g_qgetp g1 q0 (c := 11) (by decide) (by decide) ft4_11 ?_
      refine ev_iload_n rfl ?_
      refine g_qiald g1 q0 (c := 11) (by decide) (by decide) (by decide) (by omega) (by show x2 < m0; omega) rfl (fun v11772 ev11772 lv11772 uv11772 => ?_)
      refine g_isubG (fun v11773 ev11773 lv11773 uv11773 => ?_)
      exact ev_ret rfl (by decide) (by decide) ⟨_, rfl, by omega, by omega, g1, k1⟩
    · refine ev_aload_n rfl ?_
      refine g_qgetp g1 q0 (c := 2) (by decide) (by decide) ft4_2 ?_
      refine ev_iload_n rfl ?_
      refine g_qiald g1 q0 (c := 2) (by decide) (by decide) (by decide) (by omega) (by show x2 < m0; omega) rfl (fun v11774 ev11774 lv11774 uv11774 => ?_)
      refine ev_ifeq f53_64 (fun c11775 => ?_) (fun c11775 => ?_)
      · refine ev_aload_n rfl ?_
        refine g_qgetp g1 q0 (c := 3) (by decide) (by decide) ft4_3 ?_
        refine ev_iload_n rfl ?_
        refine g_qiald g1 q0 (c := 3) (by decide) (by decide) (by decide) (by omega) (by show x2 < m0; omega) rfl (fun v11776 ev11776 lv11776 uv11776 => ?_)
        refine ev_aload_n rfl ?_
        refine g_qgetp g1 q0 (c := 11) (by decide) (by decide) ft4_11 ?_
        refine ev_iload_n rfl ?_
        refine g_qiald g1 q0 (c := 11) (by decide) (by decide) (by decide) (by omega) (by show x2 < m0; omega) rfl (fun v11777 ev11777 lv11777 uv11777 => ?_)
        refine g_isubG (fun v11778 ev11778 lv11778 uv11778 => ?_)
        exact ev_ret rfl (by decide) (by decide) ⟨_, rfl, by omega, by omega, g1, k1⟩
      · refine ev_aload_n rfl ?_
        refine ev_iload_n rfl ?_
        refine ev_aload_n rfl ?_
        refine g_qgetp g1 q0 (c := 2) (by decide) (by decide) ft4_2 ?_
        refine ev_iload_n rfl ?_
        refine g_qialdv (v := v11774) g1 q0 (c := 2) (by decide) (by decide) (by decide) (by omega) (by show x2 < m0; omega) (ev11774) ?_
        refine ev_iconst ?_
        refine ev_icmpne f53_42 (fun c11779 => ?_) (fun c11779 => ?_)
        · refine ev_iload_n rfl ?_
          refine ev_iconst ?_
          refine ev_aload_n rfl ?_
          refine g_qgetp g1 q0 (c := 3) (by decide) (by decide) ft4_3 ?_
          refine ev_iload_n rfl ?_
          refine g_qiald g1 q0 (c := 3) (by decide) (by decide) (by decide) (by omega) (by show x2 < m0; omega) rfl (fun v11780 ev11780 lv11780 uv11780 => ?_)
          refine g_imulG (fun v11781 ev11781 lv11781 uv11781 => ?_)
          refine g_ishrG (fun v11782 ev11782 lv11782 uv11782 => ?_)
          refine ev_iconst ?_
          refine g_iandB (b := 3) (by omega) (by omega) (by decide) (fun v11783 ev11783 lv11783 uv11783 => ?_)
          refine ev_in (d := 0) (a := 0) (b := 0) (cd' := c30_0) (m := 3) (L0 := [(2, (r0 : Int)), (0, x2), (0, v11783)]) (jcall_v (A := [(0, v11783), (0, x2)]) (S' := []) (r := r0) rfl (g1.qlt q0) (g1.qtg q0) (Nat.le_of_ble_eq_true rfl)) (by decide) ml30 pp30 (Nat.le_of_ble_eq_true rfl) rfl (by decide) (by decide) ?_
          refine ev_aload_n rfl ?_
          refine g_qgetp g1 q0 (c := 5) (by decide) (by decide) ft4_5 ?_
          refine ev_iconst ?_
          refine ev_iload_n rfl ?_
          refine ev_imul (r := (4 * x2)) (by unfold w32; omega) ?_
          refine ev_iload_n rfl ?_
          refine ev_iadd (r := (v11783 + 4 * x2)) (by unfold w32; omega) ?_
          refine g_qiald g1 q0 (c := 5) (by decide) (by decide) (by decide) (by omega) (by show (v11783 + 4 * x2) < 4 * m0; omega) rfl (fun v11784 ev11784 lv11784 uv11784 => ?_)
          refine ev_ret rfl (by decide) (by decide) ?_
          show jEv _ _ _ _ _ _ _ (_, [(2, (r0 : Int)), (0, a1), (0, x2), (0, x3)], [(0, v11784)], _, _, _)
          refine ev_istore_n (L' := [(2, (r0 : Int)), (0, a1), (0, v11784), (0, x3)]) (Nat.le_of_ble_eq_true rfl) rfl ?_
          refine ev_iinc (w := (x3 + 1)) (L' := [(2, (r0 : Int)), (0, a1), (0, v11784), (0, (x3 + 1))]) rfl (by unfold w32; omega) rfl ?_
          refine ev_goto f53_4 ?_
          exact ih _ _ _ g1 k1 (by omega) (by omega) (by omega) (by omega) (by omega) (by omega) (by omega) (by omega)
        · refine ev_aload_n rfl ?_
          refine g_qgetp g1 q0 (c := 9) (by decide) (by decide) ft4_9 ?_
          refine ev_iload_n rfl ?_
          refine g_qiald g1 q0 (c := 9) (by decide) (by decide) (by decide) (by omega) (by show x2 < m0; omega) rfl (fun v11785 ev11785 lv11785 uv11785 => ?_)
          refine ev_goto f53_54 ?_
          refine ev_in (d := 0) (a := 0) (b := 0) (cd' := c30_0) (m := 3) (L0 := [(2, (r0 : Int)), (0, x2), (0, v11785)]) (jcall_v (A := [(0, v11785), (0, x2)]) (S' := []) (r := r0) rfl (g1.qlt q0) (g1.qtg q0) (Nat.le_of_ble_eq_true rfl)) (by decide) ml30 pp30 (Nat.le_of_ble_eq_true rfl) rfl (by decide) (by decide) ?_
          refine ev_aload_n rfl ?_
          refine g_qgetp g1 q0 (c := 5) (by decide) (by decide) ft4_5 ?_
          refine ev_iconst ?_
          refine ev_iload_n rfl ?_
          refine ev_imul (r := (4 * x2)) (by unfold w32; omega) ?_
          refine ev_iload_n rfl ?_
          refine ev_iadd (r := (v11785 + 4 * x2)) (by unfold w32; omega) ?_
          refine g_qiald g1 q0 (c := 5) (by decide) (by decide) (by decide) (by omega) (by show (v11785 + 4 * x2) < 4 * m0; omega) rfl (fun v11786 ev11786 lv11786 uv11786 => ?_)
          refine ev_ret rfl (by decide) (by decide) ?_
          show jEv _ _ _ _ _ _ _ (_, [(2, (r0 : Int)), (0, a1), (0, x2), (0, x3)], [(0, v11786)], _, _, _)
          refine ev_istore_n (L' := [(2, (r0 : Int)), (0, a1), (0, v11786), (0, x3)]) (Nat.le_of_ble_eq_true rfl) rfl ?_
          refine ev_iinc (w := (x3 + 1)) (L' := [(2, (r0 : Int)), (0, a1), (0, v11786), (0, (x3 + 1))]) rfl (by unfold w32; omega) rfl ?_
          refine ev_goto f53_4 ?_
          exact ih _ _ _ g1 k1 (by omega) (by omega) (by omega) (by omega) (by omega) (by omega) (by omega) (by omega)
set_option maxHeartbeats 4000000 in
theorem s53 {G : GH} {h : JH} (g : Gd G h) {r0 : Nat} {m0 : Int} (q0 : IsQ G r0 m0) {a1 : Int} (la1 : (-2147483648) ≤ a1) (ua1 : a1 ≤ 2147483647) : jOk 2 0 0 53 [(2, (r0 : Int)), (0, a1)] h (PI G [] h 0 (-2147483648) 2147483647) := by
  refine ⟨by decide, by rw [ml53]; exact Nat.le_of_ble_eq_true rfl, ?_⟩
  rw [ml53, pp53]
  show jEv _ none _ c53_0 0 0 _ (c53_0, [(2, (r0 : Int)), (0, a1), (9, 0), (9, 0)], [], h, 0, 0)
  have k0 := Kp.rf [] h
  have wr0 := g.qb q0
  have zr0 := q0.1
  refine ev_iconst ?_
  refine ev_istore_n (L' := [(2, (r0 : Int)), (0, a1), (0, 0), (9, 0)]) (Nat.le_of_ble_eq_true rfl) rfl ?_
  refine ev_iconst ?_
  refine ev_istore_n (L' := [(2, (r0 : Int)), (0, a1), (0, 0), (0, 0)]) (Nat.le_of_ble_eq_true rfl) rfl ?_
  exact (s53_l q0 la1 ua1 202) _ _ _ g k0 (by omega) (by omega) (by omega) (by omega) (by omega) (by omega) (by omega) (by omega)
/-! 54 reachByPlan -/
set_option maxHeartbeats 4000000 in
theorem s54_l {G : GH} {h : JH} {r0 : Nat} {m0 : Int} (q0 : IsQ G r0 m0) : ∀ N : Nat, (∀ (h1 : JH) (x1 : Int) (j2 j3 : AV), Gd G h1 → Kp [(1000000, 0)] h h1 → 0 ≤ x1 → x1 ≤ 100 → ((-10) * x1 + 1005) < N → jEv (jOk 1) none (fun _ => 0) c54_0 0 0 (PV G [(1000000, 0)] h) (c54_9, [(2, (r0 : Int)), (0, x1), j2, j3], [], h1, 0, 0)) ∧ (∀ (h1 : JH) (x1 x2 : Int) (j3 : AV), Gd G h1 → Kp [(1000000, 0)] h h1 → 0 ≤ x1 → x1 ≤ 99 → x1 ≤ m0 - 1 → 0 ≤ x2 → x2 ≤ 4 → ((-10) * x1 + (-x2) + 1004) < N → jEv (jOk 1) none (fun _ => 0) c54_0 0 0 (PV G [(1000000, 0)] h) (c54_19, [(2, (r0 : Int)), (0, x1), (0, x2), j3], [], h1, 0, 0)) := by
  intro N
  induction N with
  | zero => exact ⟨fun h1 x1 j2 j3 g1 k1 b0 b1 hm => absurd hm (by omega), fun h1 x1 x2 j3 g1 k1 b0 b1 b2 b3 b4 hm => absurd hm (by omega)⟩
  | succ N ih =>
    refine ⟨?_, ?_⟩
    · intro h1 x1 j2 j3 g1 k1 b0 b1 hm
      have wr0 := g1.qb q0
      have zr0 := q0.1
      refine ev_iload_n rfl ?_
      refine ev_aload_n rfl ?_
      obtain ⟨v12779, ev12779, lv12779, uv12779⟩ := g1.q0 q0
      refine g_qgetv (v := v12779) g1 q0 ft4_0 ev12779 ?_
      refine ev_icmpge f54_96 (fun c12780 => ?_) (fun c12780 => ?_)
      · exact ev_ret rfl (by decide) (by decide) ⟨rfl, g1, k1⟩
      · refine ev_iconst ?_
        refine ev_istore_n (L' := [(2, (r0 : Int)), (0, x1), (0, 0), j3]) (Nat.le_of_ble_eq_true rfl) rfl ?_
        exact ih.2 _ _ _ _ g1 k1 (by omega) (by omega) (by omega) (by omega) (by omega) (by omega)
    · intro h1 x1 x2 j3 g1 k1 b0 b1 b2 b3 b4 hm
      have wr0 := g1.qb q0
      have zr0 := q0.1
      refine ev_iload_n rfl ?_
      refine ev_aload_n rfl ?_
      refine g_qgetp g1 q0 (c := 4) (by decide) (by decide) ft4_4 ?_
      refine ev_iload_n rfl ?_
      refine g_qiald g1 q0 (c := 4) (by decide) (by decide) (by decide) (by omega) (by show x1 < m0; omega) rfl (fun v12781 ev12781 lv12781 uv12781 => ?_)
      refine ev_icmpge f54_90 (fun c12782 => ?_) (fun c12782 => ?_)
      · refine ev_iinc (w := (x1 + 1)) (L' := [(2, (r0 : Int)), (0, (x1 + 1)), (0, x2), j3]) rfl (by unfold w32; omega) rfl ?_
        refine ev_goto f54_9 ?_
        exact ih.1 _ _ _ _ g1 k1 (by omega) (by omega) (by omega)
      · refine ev_aload_n rfl ?_
        refine g_qgetp g1 q0 (c := 2) (by decide) (by decide) ft4_2 ?_
        refine ev_iload_n rfl ?_
        refine g_qiald g1 q0 (c := 2) (by decide) (by decide) (by decide) (by omega) (by show x1 < m0; omega) rfl (fun v12783 ev12783 lv12783 uv12783 => ?_)
        refine ev_iconst ?_
        refine ev_icmpeq f54_49 (fun c12784 => ?_) (fun c12784 => ?_)
        · refine ev_iconst ?_
          refine ev_goto f54_54 ?_
          refine ev_istore_n (L' := [(2, (r0 : Int)), (0, x1), (0, x2), (0, 1)]) (Nat.le_of_ble_eq_true rfl) rfl ?_
          refine ev_aload_n rfl ?_
          refine g_qgetp g1 q0 (c := 13) (by decide) (by decide) ft4_13 ?_
          refine ev_aload_n rfl ?_
          refine ev_iload_n rfl ?_
          refine ev_iload_n rfl ?_
          refine ev_in (d := 0) (a := 0) (b := 0) (cd' := c30_0) (m := 3) (L0 := [(2, (r0 : Int)), (0, x1), (0, x2)]) (jcall_v (A := [(0, x2), (0, x1)]) (S' := [(2, ((r0 + 12 : Nat) : Int))]) (r := r0) rfl (g1.qlt q0) (g1.qtg q0) (Nat.le_of_ble_eq_true rfl)) (by decide) ml30 pp30 (Nat.le_of_ble_eq_true rfl) rfl (by decide) (by decide) ?_
          refine ev_aload_n rfl ?_
          refine g_qgetp g1 q0 (c := 5) (by decide) (by decide) ft4_5 ?_
          refine ev_iconst ?_
          refine ev_iload_n rfl ?_
          refine ev_imul (r := (4 * x1)) (by unfold w32; omega) ?_
          refine ev_iload_n rfl ?_
          refine ev_iadd (r := (4 * x1 + x2)) (by unfold w32; omega) ?_
          refine g_qiald g1 q0 (c := 5) (by decide) (by decide) (by decide) (by omega) (by show (4 * x1 + x2) < 4 * m0; omega) rfl (fun v12785 ev12785 lv12785 uv12785 => ?_)
          refine ev_ret rfl (by decide) (by decide) ?_
          show jEv _ _ _ _ _ _ _ (_, [(2, (r0 : Int)), (0, x1), (0, x2), (0, 1)], [(0, v12785), (2, ((r0 + 12 : Nat) : Int))], _, _, _)
          refine ev_aload_n rfl ?_
          refine g_qgetp g1 q0 (c := 13) (by decide) (by decide) ft4_13 ?_
          refine ev_iload_n rfl ?_
          refine g_qzald g1 q0 (c := 13) (by decide) (by decide) (by decide) (by omega) (by show x1 < m0; omega) rfl (fun v12786 ev12786 lv12786 uv12786 => ?_)
          refine ev_ifeq f54_82 (fun c12787 => ?_) (fun c12787 => ?_)
          · refine ev_iconst ?_
            refine g_qzast g1 q0 (c := 13) (by decide) (by decide) (by decide) (by omega) (by show v12785 < m0; omega) rfl (by omega) (by omega) (fun h12788 e12788 g12788 => ?_)
            have k12788 := k1.wr e12788 (inW_dyn rfl (by have := q0.1; omega))
            refine ev_iinc (w := (x2 + 1)) (L' := [(2, (r0 : Int)), (0, x1), (0, (x2 + 1)), (0, 1)]) rfl (by unfold w32; omega) rfl ?_
            refine ev_goto f54_19 ?_
            exact ih.2 _ _ _ _ g12788 k12788 (by omega) (by omega) (by omega) (by omega) (by omega) (by omega)
          · refine ev_iload_n rfl ?_
            refine ev_ifeq f54_82 (fun c12789 => absurd c12789 (by omega)) (fun c12789 => ?_)
            refine ev_iconst ?_
            refine ev_goto f54_83 ?_
            refine g_qzast g1 q0 (c := 13) (by decide) (by decide) (by decide) (by omega) (by show v12785 < m0; omega) rfl (by omega) (by omega) (fun h12790 e12790 g12790 => ?_)
            have k12790 := k1.wr e12790 (inW_dyn rfl (by have := q0.1; omega))
            refine ev_iinc (w := (x2 + 1)) (L' := [(2, (r0 : Int)), (0, x1), (0, (x2 + 1)), (0, 1)]) rfl (by unfold w32; omega) rfl ?_
            refine ev_goto f54_19 ?_
            exact ih.2 _ _ _ _ g12790 k12790 (by omega) (by omega) (by omega) (by omega) (by omega) (by omega)
        · refine ev_aload_n rfl ?_
          refine g_qgetp g1 q0 (c := 9) (by decide) (by decide) ft4_9 ?_
          refine ev_iload_n rfl ?_
          refine g_qiald g1 q0 (c := 9) (by decide) (by decide) (by decide) (by omega) (by show x1 < m0; omega) rfl (fun v12791 ev12791 lv12791 uv12791 => ?_)
          refine ev_iload_n rfl ?_
          refine ev_icmpne f54_53 (fun c12792 => ?_) (fun c12792 => ?_)
          · refine ev_iconst ?_
            refine ev_istore_n (L' := [(2, (r0 : Int)), (0, x1), (0, x2), (0, 0)]) (Nat.le_of_ble_eq_true rfl) rfl ?_
            refine ev_aload_n rfl ?_
            refine g_qgetp g1 q0 (c := 13) (by decide) (by decide) ft4_13 ?_
            refine ev_aload_n rfl ?_
            refine ev_iload_n rfl ?_
            refine ev_iload_n rfl ?_
            refine ev_in (d := 0) (a := 0) (b := 0) (cd' := c30_0) (m := 3) (L0 := [(2, (r0 : Int)), (0, x1), (0, x2)]) (jcall_v (A := [(0, x2), (0, x1)]) (S' := [(2, ((r0 + 12 : Nat) : Int))]) (r := r0) rfl (g1.qlt q0) (g1.qtg q0) (Nat.le_of_ble_eq_true rfl)) (by decide) ml30 pp30 (Nat.le_of_ble_eq_true rfl) rfl (by decide) (by decide) ?_
            refine ev_aload_n rfl ?_
            refine g_qgetp g1 q0 (c := 5) (by decide) (by decide) ft4_5 ?_
            refine ev_iconst ?_
            refine ev_iload_n rfl ?_
            refine ev_imul (r := (4 * x1)) (by unfold w32; omega) ?_
            refine ev_iload_n rfl ?_
            refine ev_iadd (r := (4 * x1 + x2)) (by unfold w32; omega) ?_
            refine g_qiald g1 q0 (c := 5) (by decide) (by decide) (by decide) (by omega) (by show (4 * x1 + x2) < 4 * m0; omega) rfl (fun v12793 ev12793 lv12793 uv12793 => ?_)
            refine ev_ret rfl (by decide) (by decide) ?_
            show jEv _ _ _ _ _ _ _ (_, [(2, (r0 : Int)), (0, x1), (0, x2), (0, 0)], [(0, v12793), (2, ((r0 + 12 : Nat) : Int))], _, _, _)
            refine ev_aload_n rfl ?_
            refine g_qgetp g1 q0 (c := 13) (by decide) (by decide) ft4_13 ?_
            refine ev_iload_n rfl ?_
            refine g_qzald g1 q0 (c := 13) (by decide) (by decide) (by decide) (by omega) (by show x1 < m0; omega) rfl (fun v12794 ev12794 lv12794 uv12794 => ?_)
            refine ev_ifeq f54_82 (fun c12795 => ?_) (fun c12795 => ?_)
            · refine ev_iconst ?_
              refine g_qzast g1 q0 (c := 13) (by decide) (by decide) (by decide) (by omega) (by show v12793 < m0; omega) rfl (by omega) (by omega) (fun h12796 e12796 g12796 => ?_)
              have k12796 := k1.wr e12796 (inW_dyn rfl (by have := q0.1; omega))
              refine ev_iinc (w := (x2 + 1)) (L' := [(2, (r0 : Int)), (0, x1), (0, (x2 + 1)), (0, 0)]) rfl (by unfold w32; omega) rfl ?_
              refine ev_goto f54_19 ?_
              exact ih.2 _ _ _ _ g12796 k12796 (by omega) (by omega) (by omega) (by omega) (by omega) (by omega)
            · refine ev_iload_n rfl ?_
              refine ev_ifeq f54_82 (fun c12797 => ?_) (fun c12797 => absurd c12797 (by omega))
              refine ev_iconst ?_
              refine g_qzast g1 q0 (c := 13) (by decide) (by decide) (by decide) (by omega) (by show v12793 < m0; omega) rfl (by omega) (by omega) (fun h12798 e12798 g12798 => ?_)
              have k12798 := k1.wr e12798 (inW_dyn rfl (by have := q0.1; omega))
              refine ev_iinc (w := (x2 + 1)) (L' := [(2, (r0 : Int)), (0, x1), (0, (x2 + 1)), (0, 0)]) rfl (by unfold w32; omega) rfl ?_
              refine ev_goto f54_19 ?_
              exact ih.2 _ _ _ _ g12798 k12798 (by omega) (by omega) (by omega) (by omega) (by omega) (by omega)
          · refine ev_iconst ?_
            refine ev_goto f54_54 ?_
            refine ev_istore_n (L' := [(2, (r0 : Int)), (0, x1), (0, x2), (0, 1)]) (Nat.le_of_ble_eq_true rfl) rfl ?_
            refine ev_aload_n rfl ?_
            refine g_qgetp g1 q0 (c := 13) (by decide) (by decide) ft4_13 ?_
            refine ev_aload_n rfl ?_
            refine ev_iload_n rfl ?_
            refine ev_iload_n rfl ?_
            refine ev_in (d := 0) (a := 0) (b := 0) (cd' := c30_0) (m := 3) (L0 := [(2, (r0 : Int)), (0, x1), (0, x2)]) (jcall_v (A := [(0, x2), (0, x1)]) (S' := [(2, ((r0 + 12 : Nat) : Int))]) (r := r0) rfl (g1.qlt q0) (g1.qtg q0) (Nat.le_of_ble_eq_true rfl)) (by decide) ml30 pp30 (Nat.le_of_ble_eq_true rfl) rfl (by decide) (by decide) ?_
            refine ev_aload_n rfl ?_
            refine g_qgetp g1 q0 (c := 5) (by decide) (by decide) ft4_5 ?_
            refine ev_iconst ?_
            refine ev_iload_n rfl ?_
            refine ev_imul (r := (4 * x1)) (by unfold w32; omega) ?_
            refine ev_iload_n rfl ?_
            refine ev_iadd (r := (4 * x1 + x2)) (by unfold w32; omega) ?_
            refine g_qiald g1 q0 (c := 5) (by decide) (by decide) (by decide) (by omega) (by show (4 * x1 + x2) < 4 * m0; omega) rfl (fun v12799 ev12799 lv12799 uv12799 => ?_)
            refine ev_ret rfl (by decide) (by decide) ?_
            show jEv _ _ _ _ _ _ _ (_, [(2, (r0 : Int)), (0, x1), (0, x2), (0, 1)], [(0, v12799), (2, ((r0 + 12 : Nat) : Int))], _, _, _)
            refine ev_aload_n rfl ?_
            refine g_qgetp g1 q0 (c := 13) (by decide) (by decide) ft4_13 ?_
            refine ev_iload_n rfl ?_
            refine g_qzald g1 q0 (c := 13) (by decide) (by decide) (by decide) (by omega) (by show x1 < m0; omega) rfl (fun v12800 ev12800 lv12800 uv12800 => ?_)
            refine ev_ifeq f54_82 (fun c12801 => ?_) (fun c12801 => ?_)
            · refine ev_iconst ?_
              refine g_qzast g1 q0 (c := 13) (by decide) (by decide) (by decide) (by omega) (by show v12799 < m0; omega) rfl (by omega) (by omega) (fun h12802 e12802 g12802 => ?_)
              have k12802 := k1.wr e12802 (inW_dyn rfl (by have := q0.1; omega))
              refine ev_iinc (w := (x2 + 1)) (L' := [(2, (r0 : Int)), (0, x1), (0, (x2 + 1)), (0, 1)]) rfl (by unfold w32; omega) rfl ?_
              refine ev_goto f54_19 ?_
              exact ih.2 _ _ _ _ g12802 k12802 (by omega) (by omega) (by omega) (by omega) (by omega) (by omega)
            · refine ev_iload_n rfl ?_
              refine ev_ifeq f54_82 (fun c12803 => absurd c12803 (by omega)) (fun c12803 => ?_)
              refine ev_iconst ?_
              refine ev_goto f54_83 ?_
              refine g_qzast g1 q0 (c := 13) (by decide) (by decide) (by decide) (by omega) (by show v12799 < m0; omega) rfl (by omega) (by omega) (fun h12804 e12804 g12804 => ?_)
              have k12804 := k1.wr e12804 (inW_dyn rfl (by have := q0.1; omega))
              refine ev_iinc (w := (x2 + 1)) (L' := [(2, (r0 : Int)), (0, x1), (0, (x2 + 1)), (0, 1)]) rfl (by unfold w32; omega) rfl ?_
              refine ev_goto f54_19 ?_
              exact ih.2 _ _ _ _ g12804 k12804 (by omega) (by omega) (by omega) (by omega) (by omega) (by omega)
set_option maxHeartbeats 4000000 in
theorem s54 {G : GH} {h : JH} (g : Gd G h) {r0 : Nat} {m0 : Int} (q0 : IsQ G r0 m0) : jOk 2 0 0 54 [(2, (r0 : Int))] h (PV G [(1000000, 0)] h) := by
  refine ⟨by decide, by rw [ml54]; exact Nat.le_of_ble_eq_true rfl, ?_⟩
  rw [ml54, pp54]
  show jEv _ none _ c54_0 0 0 _ (c54_0, [(2, (r0 : Int)), (9, 0), (9, 0), (9, 0)], [], h, 0, 0)
  have k0 := Kp.rf [(1000000, 0)] h
  have wr0 := g.qb q0
  have zr0 := q0.1
  refine ev_aload_n rfl ?_
  refine g_qgetp g q0 (c := 13) (by decide) (by decide) ft4_13 ?_
  refine ev_iconst ?_
  refine ev_iconst ?_
  refine g_qzast g q0 (c := 13) (by decide) (by decide) (by decide) (by omega) (by show 0 < m0; omega) rfl (by omega) (by omega) (fun h12805 e12805 g12805 => ?_)
  have k12805 := k0.wr e12805 (inW_dyn rfl (by have := q0.1; omega))
  refine ev_iconst ?_
  refine ev_istore_n (L' := [(2, (r0 : Int)), (0, 0), (9, 0), (9, 0)]) (Nat.le_of_ble_eq_true rfl) rfl ?_
  exact (s54_l q0 2020).1 _ _ _ _ g12805 k12805 (by omega) (by omega) (by omega)
/-! 55 toldOfPlan -/
set_option maxHeartbeats 4000000 in
theorem s55_l {G : GH} {h : JH} {r0 : Nat} {m0 : Int} (q0 : IsQ G r0 m0) {a1 : Int} (la1 : (-2147483648) ≤ a1) (ua1 : a1 ≤ 2147483647) : ∀ N : Nat, (∀ (h1 : JH) (x2 x3 : Int), Gd G h1 → Kp [(1000000, 0)] h h1 → (-2147483648) ≤ a1 → a1 ≤ 2147483647 → (-2147483648) ≤ x2 → x2 ≤ 2147483647 → 0 ≤ x3 → x3 ≤ 100 → ((-x3) + 100) < N → jEv (jOk 2) none (fun _ => 0) c55_0 0 0 (PI G [(1000000, 0)] h 0 (-2147483648) 2147483647) (c55_8, [(2, (r0 : Int)), (0, a1), (0, x2), (0, x3)], [], h1, 0, 0)) := by
  intro N
  induction N with
  | zero => exact fun h1 x2 x3 g1 k1 b0 b1 b2 b3 b4 b5 hm => absurd hm (by omega)
  | succ N ih =>
    show _
    intro h1 x2 x3 g1 k1 b0 b1 b2 b3 b4 b5 hm
    have wr0 := g1.qb q0
    have zr0 := q0.1
    refine ev_iload_n rfl ?_
    refine ev_aload_n rfl ?_
    obtain ⟨v13486, ev13486, lv13486, uv13486⟩ := g1.q0 q0
    refine g_qgetv (v := v13486) g1 q0 ft4_0 ev13486 ?_
    refine ev_icmpge f55_61 (fun c13487 => ?_) (fun c13487 => ?_)
    · refine ev_iload_n rfl ?_
      refine ev_iconst ?_
      refine ev_icmpne f55_70 (fun c13488 => ?_) (fun c13488 => ?_)
      · refine ev_iconst ?_
        exact ev_ret rfl (by decide) (by decide) ⟨_, rfl, by omega, by omega, g1, k1⟩
      · refine ev_iload_n rfl ?_
        refine ev_goto f55_71 ?_
        exact ev_ret rfl (by decide) (by decide) ⟨_, rfl, by omega, by omega, g1, k1⟩
    · refine ev_aload_n rfl ?_
      refine g_qgetp g1 q0 (c := 13) (by decide) (by decide) ft4_13 ?_
      refine ev_iload_n rfl ?_
      refine g_qzald g1 q0 (c := 13) (by decide) (by decide) (by decide) (by omega) (by show x3 < m0; omega) rfl (fun v13489 ev13489 lv13489 uv13489 => ?_)
      refine ev_ifeq f55_55 (fun c13490 => ?_) (fun c13490 => ?_)
      · refine ev_iinc (w := (x3 + 1)) (L' := [(2, (r0 : Int)), (0, a1), (0, x2), (0, (x3 + 1))]) rfl (by unfold w32; omega) rfl ?_
        refine ev_goto f55_8 ?_
        exact ih _ _ _ g1 k1 (by omega) (by omega) (by omega) (by omega) (by omega) (by omega) (by omega)
      · refine ev_aload_n rfl ?_
        refine g_qgetp g1 q0 (c := 2) (by decide) (by decide) ft4_2 ?_
        refine ev_iload_n rfl ?_
        refine g_qiald g1 q0 (c := 2) (by decide) (by decide) (by decide) (by omega) (by show x3 < m0; omega) rfl (fun v13491 ev13491 lv13491 uv13491 => ?_)
        refine ev_iconst ?_
        refine ev_icmpne f55_55 (fun c13492 => ?_) (fun c13492 => ?_)
        · refine ev_iinc (w := (x3 + 1)) (L' := [(2, (r0 : Int)), (0, a1), (0, x2), (0, (x3 + 1))]) rfl (by unfold w32; omega) rfl ?_
          refine ev_goto f55_8 ?_
          exact ih _ _ _ g1 k1 (by omega) (by omega) (by omega) (by omega) (by omega) (by omega) (by omega)
        · refine ev_iload_n rfl ?_
          refine ev_iload_n rfl ?_
          refine ev_icmpne f55_52 (fun c13493 => ?_) (fun c13493 => ?_)
          · refine g_iincG (f := fun w => [(2, (r0 : Int)), (0, a1), (0, w), (0, x3)]) rfl (fun _ => rfl) (fun v13494 ev13494 lv13494 uv13494 => ?_)
            refine ev_iinc (w := (x3 + 1)) (L' := [(2, (r0 : Int)), (0, a1), (0, v13494), (0, (x3 + 1))]) rfl (by unfold w32; omega) rfl ?_
            refine ev_goto f55_8 ?_
            exact ih _ _ _ g1 k1 (by omega) (by omega) (by omega) (by omega) (by omega) (by omega) (by omega)
          · refine ev_bipush ?_
            refine ev_iload_n rfl ?_
            refine ev_imul (r := (10 * x3)) (by unfold w32; omega) ?_
            refine ev_aload_n rfl ?_
            refine g_qgetp g1 q0 (c := 9) (by decide) (by decide) ft4_9 ?_
            refine ev_iload_n rfl ?_
            refine g_qiald g1 q0 (c := 9) (by decide) (by decide) (by decide) (by omega) (by show x3 < m0; omega) rfl (fun v13495 ev13495 lv13495 uv13495 => ?_)
            refine ev_iadd (r := (v13495 + 10 * x3)) (by unfold w32; omega) ?_
            exact ev_ret rfl (by decide) (by decide) ⟨_, rfl, by omega, by omega, g1, k1⟩
set_option maxHeartbeats 4000000 in
theorem s55 {G : GH} {h : JH} (g : Gd G h) {r0 : Nat} {m0 : Int} (q0 : IsQ G r0 m0) {a1 : Int} (la1 : (-2147483648) ≤ a1) (ua1 : a1 ≤ 2147483647) : jOk 3 0 0 55 [(2, (r0 : Int)), (0, a1)] h (PI G [(1000000, 0)] h 0 (-2147483648) 2147483647) := by
  refine ⟨by decide, by rw [ml55]; exact Nat.le_of_ble_eq_true rfl, ?_⟩
  rw [ml55, pp55]
  show jEv _ none _ c55_0 0 0 _ (c55_0, [(2, (r0 : Int)), (0, a1), (9, 0), (9, 0)], [], h, 0, 0)
  have k0 := Kp.rf [(1000000, 0)] h
  have wr0 := g.qb q0
  have zr0 := q0.1
  refine ev_aload_n rfl ?_
  refine ev_call (jcall_v (A := []) (S' := []) (r := r0) rfl (g.qlt q0) (g.qtg q0) (Nat.le_of_ble_eq_true rfl)) (jOk_le (by decide) (s54 g q0)) (by decide) (by decide) (fun w13496 h13496 q13496 => ?_)
  obtain ⟨rfl, g13496, kk13496⟩ := q13496
  have k13496 := k0.tr kk13496 (by decide)
  show jEv _ _ _ _ _ _ _ (_, [(2, (r0 : Int)), (0, a1), (9, 0), (9, 0)], [], _, _, _)
  refine ev_iconst ?_
  refine ev_istore_n (L' := [(2, (r0 : Int)), (0, a1), (0, 0), (9, 0)]) (Nat.le_of_ble_eq_true rfl) rfl ?_
  refine ev_iconst ?_
  refine ev_istore_n (L' := [(2, (r0 : Int)), (0, a1), (0, 0), (0, 0)]) (Nat.le_of_ble_eq_true rfl) rfl ?_
  exact (s55_l q0 la1 ua1 202) _ _ _ g13496 k13496 (by omega) (by omega) (by omega) (by omega) (by omega) (by omega) (by omega)
/-! 57 isBettered -/
set_option maxHeartbeats 4000000 in
theorem s57_l {G : GH} {h : JH} {r0 : Nat} {m0 : Int} (q0 : IsQ G r0 m0) {a1 : Int} (la1 : 0 ≤ a1) (ua1 : a1 ≤ m0 - 1) {f2 : Nat} (q2 : IsF G f2) {a3 : Int} (la3 : (-9223372036854775808) ≤ a3) (ua3 : a3 ≤ 9223372036854775807) : ∀ N : Nat, (∀ (h1 : JH) (x5 x6 x7 : Int), Gd G h1 → Kp [(1000000, 0)] h h1 → 0 ≤ a1 → a1 ≤ 99 → (-9223372036854775808) ≤ a3 → a3 ≤ 9223372036854775807 → 0 ≤ x5 → x5 ≤ 3 → 0 ≤ x6 → x6 ≤ 1 → 0 ≤ x7 → x7 ≤ 4 → ((-x7) + 4) < N → jEv (jOk 4) none (fun _ => 0) c57_0 0 0 (PI G [(1000000, 0)] h 0 0 1) (c57_14, [(2, (r0 : Int)), (0, a1), (2, (f2 : Int)), (1, a3), (9, 0), (0, x5), (0, x6), (0, x7)], [], h1, 0, 0)) := by
  intro N
  induction N with
  | zero => exact fun h1 x5 x6 x7 g1 k1 b0 b1 b2 b3 b4 b5 b6 b7 b8 b9 hm => absurd hm (by omega)
  | succ N ih =>
    show _
    intro h1 x5 x6 x7 g1 k1 b0 b1 b2 b3 b4 b5 b6 b7 b8 b9 hm
    have wr0 := g1.qb q0
    have zr0 := q0.1
    refine ev_iload rfl ?_
    refine ev_aload_n rfl ?_
    refine g_qgetp g1 q0 (c := 4) (by decide) (by decide) ft4_4 ?_
    refine ev_iload_n rfl ?_
    refine g_qiald g1 q0 (c := 4) (by decide) (by decide) (by decide) (by omega) (by show a1 < m0; omega) rfl (fun v13552 ev13552 lv13552 uv13552 => ?_)
    refine ev_icmpge f57_61 (fun c13553 => ?_) (fun c13553 => ?_)
    · refine ev_aload_n rfl ?_
      refine g_qgetp g1 q0 (c := 9) (by decide) (by decide) ft4_9 ?_
      refine ev_iload_n rfl ?_
      refine ev_iload rfl ?_
      refine g_qiast g1 q0 (c := 9) (by decide) (by decide) (by decide) (by omega) (by show a1 < m0; omega) rfl (by omega) (by omega) (fun h13554 e13554 g13554 => ?_)
      have k13554 := k1.wr e13554 (inW_dyn rfl (by have := q0.1; omega))
      refine ev_iload rfl ?_
      exact ev_ret (jret_b (by omega)) (by decide) (by decide) ⟨_, rfl, by omega, by omega, g13554, k13554⟩
    · refine ev_iload rfl ?_
      refine ev_ifne f57_61 (fun c13555 => ?_) (fun c13555 => ?_)
      · refine ev_aload_n rfl ?_
        refine g_qgetp g1 q0 (c := 9) (by decide) (by decide) ft4_9 ?_
        refine ev_iload_n rfl ?_
        refine ev_iload rfl ?_
        refine g_qiast g1 q0 (c := 9) (by decide) (by decide) (by decide) (by omega) (by show a1 < m0; omega) rfl (by omega) (by omega) (fun h13556 e13556 g13556 => ?_)
        have k13556 := k1.wr e13556 (inW_dyn rfl (by have := q0.1; omega))
        refine ev_iload rfl ?_
        exact ev_ret (jret_b (by omega)) (by decide) (by decide) ⟨_, rfl, by omega, by omega, g13556, k13556⟩
      · refine ev_aload_n rfl ?_
        refine g_qgetp g1 q0 (c := 9) (by decide) (by decide) ft4_9 ?_
        refine ev_iload_n rfl ?_
        refine ev_iload rfl ?_
        refine g_qiast g1 q0 (c := 9) (by decide) (by decide) (by decide) (by omega) (by show a1 < m0; omega) rfl (by omega) (by omega) (fun h13557 e13557 g13557 => ?_)
        have k13557 := k1.wr e13557 (inW_dyn rfl (by have := q0.1; omega))
        refine ev_aload_n rfl ?_
        refine ev_aload_n rfl ?_
        refine ev_call (jcall_v (A := [(2, (f2 : Int))]) (S' := []) (r := r0) rfl (g13557.qlt q0) (g13557.qtg q0) (Nat.le_of_ble_eq_true rfl)) (jOk_le (by decide) (s49 g13557 q0 q2)) (by decide) (by decide) (fun w13558 h13558 q13558 => ?_)
        obtain ⟨v13559, rfl, lv13559, uv13559, g13558, kk13558⟩ := q13558
        have k13558 := k13557.tr kk13558 (by decide)
        show jEv _ _ _ _ _ _ _ (_, [(2, (r0 : Int)), (0, a1), (2, (f2 : Int)), (1, a3), (9, 0), (0, x5), (0, x6), (0, x7)], [(1, v13559)], _, _, _)
        refine ev_lload_n rfl ?_
        refine ev_lcmp ?_
        refine ev_ifle f57_52 (fun c13560 => ?_) (fun c13560 => ?_)
        · have c13560b := jcmpL_le c13560
          refine ev_iconst ?_
          refine ev_istore (L' := [(2, (r0 : Int)), (0, a1), (2, (f2 : Int)), (1, a3), (9, 0), (0, x5), (0, 0), (0, x7)]) (Nat.le_of_ble_eq_true rfl) rfl ?_
          refine ev_iinc (w := (x7 + 1)) (L' := [(2, (r0 : Int)), (0, a1), (2, (f2 : Int)), (1, a3), (9, 0), (0, x5), (0, 0), (0, (x7 + 1))]) rfl (by unfold w32; omega) rfl ?_
          refine ev_goto f57_14 ?_
          exact ih _ _ _ _ g13558 k13558 (by omega) (by omega) (by omega) (by omega) (by omega) (by omega) (by omega) (by omega) (by omega) (by omega) (by omega)
        · have c13560b := jcmpL_leN c13560
          refine ev_iconst ?_
          refine ev_goto f57_53 ?_
          refine ev_istore (L' := [(2, (r0 : Int)), (0, a1), (2, (f2 : Int)), (1, a3), (9, 0), (0, x5), (0, 1), (0, x7)]) (Nat.le_of_ble_eq_true rfl) rfl ?_
          refine ev_iinc (w := (x7 + 1)) (L' := [(2, (r0 : Int)), (0, a1), (2, (f2 : Int)), (1, a3), (9, 0), (0, x5), (0, 1), (0, (x7 + 1))]) rfl (by unfold w32; omega) rfl ?_
          refine ev_goto f57_14 ?_
          exact ih _ _ _ _ g13558 k13558 (by omega) (by omega) (by omega) (by omega) (by omega) (by omega) (by omega) (by omega) (by omega) (by omega) (by omega)
set_option maxHeartbeats 4000000 in
theorem s57 {G : GH} {h : JH} (g : Gd G h) {r0 : Nat} {m0 : Int} (q0 : IsQ G r0 m0) {a1 : Int} (la1 : 0 ≤ a1) (ua1 : a1 ≤ m0 - 1) {f2 : Nat} (q2 : IsF G f2) {a3 : Int} (la3 : (-9223372036854775808) ≤ a3) (ua3 : a3 ≤ 9223372036854775807) : jOk 5 0 0 57 [(2, (r0 : Int)), (0, a1), (2, (f2 : Int)), (1, a3)] h (PI G [(1000000, 0)] h 0 0 1) := by
  refine ⟨by decide, by rw [ml57]; exact Nat.le_of_ble_eq_true rfl, ?_⟩
  rw [ml57, pp57]
  show jEv _ none _ c57_0 0 0 _ (c57_0, [(2, (r0 : Int)), (0, a1), (2, (f2 : Int)), (1, a3), (9, 0), (9, 0), (9, 0), (9, 0)], [], h, 0, 0)
  have k0 := Kp.rf [(1000000, 0)] h
  have wr0 := g.qb q0
  have zr0 := q0.1
  refine ev_aload_n rfl ?_
  refine g_qgetp g q0 (c := 9) (by decide) (by decide) ft4_9 ?_
  refine ev_iload_n rfl ?_
  refine g_qiald g q0 (c := 9) (by decide) (by decide) (by decide) (by omega) (by show a1 < m0; omega) rfl (fun v13561 ev13561 lv13561 uv13561 => ?_)
  refine ev_istore (L' := [(2, (r0 : Int)), (0, a1), (2, (f2 : Int)), (1, a3), (9, 0), (0, v13561), (9, 0), (9, 0)]) (Nat.le_of_ble_eq_true rfl) rfl ?_
  refine ev_iconst ?_
  refine ev_istore (L' := [(2, (r0 : Int)), (0, a1), (2, (f2 : Int)), (1, a3), (9, 0), (0, v13561), (0, 0), (9, 0)]) (Nat.le_of_ble_eq_true rfl) rfl ?_
  refine ev_iconst ?_
  refine ev_istore (L' := [(2, (r0 : Int)), (0, a1), (2, (f2 : Int)), (1, a3), (9, 0), (0, v13561), (0, 0), (0, 0)]) (Nat.le_of_ble_eq_true rfl) rfl ?_
  exact (s57_l q0 la1 ua1 q2 la3 ua3 10) _ _ _ _ g k0 (by omega) (by omega) (by omega) (by omega) (by omega) (by omega) (by omega) (by omega) (by omega) (by omega) (by omega)
/-! 56 shortChoice -/
set_option maxHeartbeats 4000000 in
theorem s56_l {G : GH} {h : JH} {r0 : Nat} {m0 : Int} (q0 : IsQ G r0 m0) {f2 : Nat} (q2 : IsF G f2) : ∀ N : Nat, (∀ (h1 : JH) (x3 x5 : Int), Gd G h1 → Kp [(1000000, 0)] h h1 → (-9223372036854775808) ≤ x3 → x3 ≤ 9223372036854775807 → 0 ≤ x5 → x5 ≤ 100 → ((-x5) + 100) < N → jEv (jOk 5) none (fun _ => 0) c56_0 0 0 (PI G [(1000000, 0)] h 0 (-2) 99) (c56_14, [(2, (r0 : Int)), (2, 1), (2, (f2 : Int)), (1, x3), (9, 0), (0, x5)], [], h1, 0, 0)) := by
  intro N
  induction N with
  | zero => exact fun h1 x3 x5 g1 k1 b0 b1 b2 b3 hm => absurd hm (by omega)
  | succ N ih =>
    show _
    intro h1 x3 x5 g1 k1 b0 b1 b2 b3 hm
    have wr0 := g1.qb q0
    have zr0 := q0.1
    refine ev_iload rfl ?_
    refine ev_aload_n rfl ?_
    obtain ⟨v13919, ev13919, lv13919, uv13919⟩ := g1.q0 q0
    refine g_qgetv (v := v13919) g1 q0 ft4_0 ev13919 ?_
    refine ev_icmpge f56_64 (fun c13920 => ?_) (fun c13920 => ?_)
    · refine ev_bipush ?_
      exact ev_ret rfl (by decide) (by decide) ⟨_, rfl, by omega, by omega, g1, k1⟩
    · refine ev_aload_n rfl ?_
      refine g_qgetp g1 q0 (c := 13) (by decide) (by decide) ft4_13 ?_
      refine ev_iload rfl ?_
      refine g_qzald g1 q0 (c := 13) (by decide) (by decide) (by decide) (by omega) (by show x5 < m0; omega) rfl (fun v13921 ev13921 lv13921 uv13921 => ?_)
      refine ev_ifeq f56_58 (fun c13922 => ?_) (fun c13922 => ?_)
      · refine ev_iinc (w := (x5 + 1)) (L' := [(2, (r0 : Int)), (2, 1), (2, (f2 : Int)), (1, x3), (9, 0), (0, (x5 + 1))]) rfl (by unfold w32; omega) rfl ?_
        refine ev_goto f56_14 ?_
        exact ih _ _ _ g1 k1 (by omega) (by omega) (by omega) (by omega) (by omega)
      · refine ev_aload_n rfl ?_
        refine g_qgetp g1 q0 (c := 2) (by decide) (by decide) ft4_2 ?_
        refine ev_iload rfl ?_
        refine g_qiald g1 q0 (c := 2) (by decide) (by decide) (by decide) (by omega) (by show x5 < m0; omega) rfl (fun v13923 ev13923 lv13923 uv13923 => ?_)
        refine ev_iconst ?_
        refine ev_icmpne f56_58 (fun c13924 => ?_) (fun c13924 => ?_)
        · refine ev_iinc (w := (x5 + 1)) (L' := [(2, (r0 : Int)), (2, 1), (2, (f2 : Int)), (1, x3), (9, 0), (0, (x5 + 1))]) rfl (by unfold w32; omega) rfl ?_
          refine ev_goto f56_14 ?_
          exact ih _ _ _ g1 k1 (by omega) (by omega) (by omega) (by omega) (by omega)
        · refine ev_aload_n rfl ?_
          refine ev_iload rfl ?_
          refine ev_aload_n rfl ?_
          refine ev_lload_n rfl ?_
          refine ev_call (jcall_v (A := [(1, x3), (2, (f2 : Int)), (0, x5)]) (S' := []) (r := r0) rfl (g1.qlt q0) (g1.qtg q0) (Nat.le_of_ble_eq_true rfl)) (jOk_le (by decide) (s57 g1 q0 (by omega) (by omega) q2 (by omega) (by omega))) (by decide) (by decide) (fun w13925 h13925 q13925 => ?_)
          obtain ⟨v13926, rfl, lv13926, uv13926, g13925, kk13925⟩ := q13925
          have k13925 := k1.tr kk13925 (by decide)
          show jEv _ _ _ _ _ _ _ (_, [(2, (r0 : Int)), (2, 1), (2, (f2 : Int)), (1, x3), (9, 0), (0, x5)], [(0, v13926)], _, _, _)
          refine ev_ifeq f56_58 (fun c13927 => ?_) (fun c13927 => ?_)
          · refine ev_iinc (w := (x5 + 1)) (L' := [(2, (r0 : Int)), (2, 1), (2, (f2 : Int)), (1, x3), (9, 0), (0, (x5 + 1))]) rfl (by unfold w32; omega) rfl ?_
            refine ev_goto f56_14 ?_
            exact ih _ _ _ g13925 k13925 (by omega) (by omega) (by omega) (by omega) (by omega)
          · refine ev_iload rfl ?_
            exact ev_ret rfl (by decide) (by decide) ⟨_, rfl, by omega, by omega, g13925, k13925⟩
set_option maxHeartbeats 4000000 in
theorem s56 {G : GH} {h : JH} (g : Gd G h) {r0 : Nat} {m0 : Int} (q0 : IsQ G r0 m0) {f2 : Nat} (q2 : IsF G f2) : jOk 6 0 0 56 [(2, (r0 : Int)), (2, 1), (2, (f2 : Int))] h (PI G [(1000000, 0)] h 0 (-2) 99) := by
  refine ⟨by decide, by rw [ml56]; exact Nat.le_of_ble_eq_true rfl, ?_⟩
  rw [ml56, pp56]
  show jEv _ none _ c56_0 0 0 _ (c56_0, [(2, (r0 : Int)), (2, 1), (2, (f2 : Int)), (9, 0), (9, 0), (9, 0)], [], h, 0, 0)
  have k0 := Kp.rf [(1000000, 0)] h
  have wr0 := g.qb q0
  have zr0 := q0.1
  refine ev_aload_n rfl ?_
  refine ev_aload_n rfl ?_
  refine ev_aload_n rfl ?_
  refine ev_call (jcall_v (A := [(2, (f2 : Int)), (2, 1)]) (S' := []) (r := r0) rfl (g.qlt q0) (g.qtg q0) (Nat.le_of_ble_eq_true rfl)) (jOk_le (by decide) (s48 g q0 q2)) (by decide) (by decide) (fun w13928 h13928 q13928 => ?_)
  obtain ⟨v13929, rfl, lv13929, uv13929, g13928, kk13928⟩ := q13928
  have k13928 := k0.tr kk13928 (by decide)
  show jEv _ _ _ _ _ _ _ (_, [(2, (r0 : Int)), (2, 1), (2, (f2 : Int)), (9, 0), (9, 0), (9, 0)], [(1, v13929)], _, _, _)
  refine ev_lstore_n (L' := [(2, (r0 : Int)), (2, 1), (2, (f2 : Int)), (1, v13929), (9, 0), (9, 0)]) (Nat.le_of_ble_eq_true rfl) rfl ?_
  refine ev_aload_n rfl ?_
  refine ev_call (jcall_v (A := []) (S' := []) (r := r0) rfl (g13928.qlt q0) (g13928.qtg q0) (Nat.le_of_ble_eq_true rfl)) (jOk_le (by decide) (s54 g13928 q0)) (by decide) (by decide) (fun w13930 h13930 q13930 => ?_)
  obtain ⟨rfl, g13930, kk13930⟩ := q13930
  have k13930 := k13928.tr kk13930 (by decide)
  show jEv _ _ _ _ _ _ _ (_, [(2, (r0 : Int)), (2, 1), (2, (f2 : Int)), (1, v13929), (9, 0), (9, 0)], [], _, _, _)
  refine ev_iconst ?_
  refine ev_istore (L' := [(2, (r0 : Int)), (2, 1), (2, (f2 : Int)), (1, v13929), (9, 0), (0, 0)]) (Nat.le_of_ble_eq_true rfl) rfl ?_
  exact (s56_l q0 q2 202) _ _ _ g13930 k13930 (by omega) (by omega) (by omega) (by omega) (by omega)
/-! 59 forkTop -/
set_option maxHeartbeats 4000000 in
theorem s59 {G : GH} {h : JH} (g : Gd G h) {r0 : Nat} {m0 : Int} (q0 : IsQ G r0 m0) {a2 : Int} (la2 : 0 ≤ a2) (ua2 : a2 ≤ m0 - 1) {a3 : Int} (la3 : 0 ≤ a3) (ua3 : a3 ≤ 3) : jOk 4 0 0 59 [(2, (r0 : Int)), (2, 1), (0, a2), (0, a3)] h (PI G [] h 1 (-9223372036854775808) 9223372036854775807) := by
  refine ⟨by decide, by rw [ml59]; exact Nat.le_of_ble_eq_true rfl, ?_⟩
  rw [ml59, pp59]
  show jEv _ none _ c59_0 0 0 _ (c59_0, [(2, (r0 : Int)), (2, 1), (0, a2), (0, a3)], [], h, 0, 0)
  have k0 := Kp.rf [] h
  have wr0 := g.qb q0
  have zr0 := q0.1
  refine ev_aload_n rfl ?_
  refine g_qgetp g q0 (c := 12) (by decide) (by decide) ft4_12 ?_
  refine ev_aload_n rfl ?_
  refine ev_iload_n rfl ?_
  refine ev_iload_n rfl ?_
  refine ev_in (d := 2) (a := 0) (b := 0) (cd' := c30_0) (m := 3) (L0 := [(2, (r0 : Int)), (0, a2), (0, a3)]) (jcall_v (A := [(0, a3), (0, a2)]) (S' := [(2, ((r0 + 11 : Nat) : Int))]) (r := r0) rfl (g.qlt q0) (g.qtg q0) (Nat.le_of_ble_eq_true rfl)) (by decide) ml30 pp30 (Nat.le_of_ble_eq_true rfl) rfl (by decide) (by decide) ?_
  refine ev_aload_n rfl ?_
  refine g_qgetp g q0 (c := 5) (by decide) (by decide) ft4_5 ?_
  refine ev_iconst ?_
  refine ev_iload_n rfl ?_
  refine ev_imul (r := (4 * a2)) (by unfold w32; omega) ?_
  refine ev_iload_n rfl ?_
  refine ev_iadd (r := (4 * a2 + a3)) (by unfold w32; omega) ?_
  refine g_qiald g q0 (c := 5) (by decide) (by decide) (by decide) (by omega) (by show (4 * a2 + a3) < 4 * m0; omega) rfl (fun v13955 ev13955 lv13955 uv13955 => ?_)
  refine ev_ret rfl (by decide) (by decide) ?_
  show jEv _ _ _ _ _ _ _ (_, [(2, (r0 : Int)), (2, 1), (0, a2), (0, a3)], [(0, v13955), (2, ((r0 + 11 : Nat) : Int))], _, _, _)
  refine g_qlald g q0 (c := 12) (by decide) (by decide) (by decide) (by omega) (by show v13955 < m0; omega) rfl (fun v13956 ev13956 lv13956 uv13956 => ?_)
  refine ev_bipush ?_
  refine ev_aload_n rfl ?_
  refine g_qgetp g q0 (c := 11) (by decide) (by decide) ft4_11 ?_
  refine ev_iload_n rfl ?_
  refine g_qiald g q0 (c := 11) (by decide) (by decide) (by decide) (by omega) (by show a2 < m0; omega) rfl (fun v13957 ev13957 lv13957 uv13957 => ?_)
  refine g_imulG (fun v13958 ev13958 lv13958 uv13958 => ?_)
  refine ev_i2l ?_
  refine ev_aload_n rfl ?_
  refine ev_aload_n rfl ?_
  refine ev_iload_n rfl ?_
  refine ev_in (d := 2) (a := 0) (b := 0) (cd' := c58_0) (m := 3) (L0 := [(2, (r0 : Int)), (2, 1), (0, a2)]) (jcall_v (A := [(0, a2), (2, 1)]) (S' := [(1, v13958), (1, v13956)]) (r := r0) rfl (g.qlt q0) (g.qtg q0) (Nat.le_of_ble_eq_true rfl)) (by decide) ml58 pp58 (Nat.le_of_ble_eq_true rfl) rfl (by decide) (by decide) ?_
  refine ev_aload_n rfl ?_
  refine ev_aload_n rfl ?_
  refine g_qgetp g q0 (c := 8) (by decide) (by decide) ft4_8 ?_
  refine ev_iload_n rfl ?_
  refine g_qiald g q0 (c := 8) (by decide) (by decide) (by decide) (by omega) (by show a2 < m0; omega) rfl (fun v13959 ev13959 lv13959 uv13959 => ?_)
  refine ev_in (d := 1) (a := 0) (b := 0) (cd' := c161_0) (m := 2) (L0 := [(2, 1), (0, v13959)]) (jcall_v (A := [(0, v13959)]) (S' := []) (r := 1) rfl (g.lt ad1) (g.tg ad1) (Nat.le_of_ble_eq_true rfl)) (by decide) ml161 pp161 (Nat.le_of_ble_eq_true rfl) rfl (by decide) (by decide) ?_
  refine ev_iload_n rfl ?_
  refine ev_iflt f161_12 (fun c13960 => ?_) (fun c13960 => ?_)
  · refine ev_lconst ?_
    refine ev_goto f161_22 ?_
    refine ev_ret rfl (by decide) (by decide) ?_
    show jEv _ _ _ _ _ _ _ (_, [(2, (r0 : Int)), (2, 1), (0, a2)], [(1, 0)], _, _, _)
    refine ev_ret rfl (by decide) (by decide) ?_
    show jEv _ _ _ _ _ _ _ (_, [(2, (r0 : Int)), (2, 1), (0, a2), (0, a3)], [(1, 0), (1, v13958), (1, v13956)], _, _, _)
    refine ev_lmul (r := 0) (by unfold w64; omega) ?_
    refine ev_ladd (r := v13956) (by unfold w64; omega) ?_
    exact ev_ret rfl (by decide) (by decide) ⟨_, rfl, by omega, by omega, g, k0⟩
  · refine ev_iload_n rfl ?_
    refine ev_aload_n rfl ?_
    refine ev_in (d := 0) (a := 0) (b := 0) (cd' := c157_0) (m := 1) (L0 := [(2, 1)]) (jcall_v (A := []) (S' := [(0, v13959)]) (r := 1) rfl (g.lt ad1) (g.tg ad1) (Nat.le_of_ble_eq_true rfl)) (by decide) ml157 pp157 (Nat.le_of_ble_eq_true rfl) rfl (by decide) (by decide) ?_
    refine ev_iconst ?_
    refine ev_iconst ?_
    refine ev_aload_n rfl ?_
    obtain ⟨v13961, ev13961, lv13961, uv13961⟩ := g.rd ad1 (show 0 < 8 by decide) rf1_0
    refine g_getv (r := 1) (v := v13961) g ad1 (by decide) ft10_0 ev13961 ?_
    refine ev_imul (r := (2 * v13961)) (by unfold w32; omega) ?_
    refine g_ishlB (a' := 1) (a := 1) (b := 8) (hi := 256) (by omega) (by omega) (by omega) (by omega) (by decide) (by decide) (fun v13962 ev13962 lv13962 uv13962 => ?_)
    refine ev_ret rfl (by decide) (by decide) ?_
    show jEv _ _ _ _ _ _ _ (_, [(2, 1), (0, v13959)], [(0, v13962), (0, v13959)], _, _, _)
    refine ev_icmplt f161_16 (fun c13963 => ?_) (fun c13963 => ?_)
    · refine ev_aload_n rfl ?_
      refine g_getp (r := 1) (c := 6) g ad1 (by decide) (by decide) rf1_7 ft10_7 ?_
      refine ev_iload_n rfl ?_
      refine g_lald g ad6 rt6 (by omega) (by omega) (fun v13964 ev13964 lv13964 uv13964 => ?_)
      refine ev_ret rfl (by decide) (by decide) ?_
      show jEv _ _ _ _ _ _ _ (_, [(2, (r0 : Int)), (2, 1), (0, a2)], [(1, v13964)], _, _, _)
      refine ev_ret rfl (by decide) (by decide) ?_
      show jEv _ _ _ _ _ _ _ (_, [(2, (r0 : Int)), (2, 1), (0, a2), (0, a3)], [(1, v13964), (1, v13958), (1, v13956)], _, _, _)
      refine g_lmulG (fun v13965 ev13965 lv13965 uv13965 => ?_)
      refine g_laddG (fun v13966 ev13966 lv13966 uv13966 => ?_)
      exact ev_ret rfl (by decide) (by decide) ⟨_, rfl, by omega, by omega, g, k0⟩
    · refine ev_lconst ?_
      refine ev_goto f161_22 ?_
      refine ev_ret rfl (by decide) (by decide) ?_
      show jEv _ _ _ _ _ _ _ (_, [(2, (r0 : Int)), (2, 1), (0, a2)], [(1, 0)], _, _, _)
      refine ev_ret rfl (by decide) (by decide) ?_
      show jEv _ _ _ _ _ _ _ (_, [(2, (r0 : Int)), (2, 1), (0, a2), (0, a3)], [(1, 0), (1, v13958), (1, v13956)], _, _, _)
      refine ev_lmul (r := 0) (by unfold w64; omega) ?_
      refine ev_ladd (r := v13956) (by unfold w64; omega) ?_
      exact ev_ret rfl (by decide) (by decide) ⟨_, rfl, by omega, by omega, g, k0⟩
/-! 61 turnsFirst -/
set_option maxHeartbeats 4000000 in
theorem s61_l {G : GH} {h : JH} {r0 : Nat} {m0 : Int} (q0 : IsQ G r0 m0) {a1 : Int} (la1 : 0 ≤ a1) (ua1 : a1 ≤ m0 - 1) {a2 : Int} (la2 : (-9223372036854775808) ≤ a2) (ua2 : a2 ≤ 9223372036854775807) : ∀ N : Nat, (∀ (h1 : JH) (x4 x5 x7 : Int) (j8 j9 : AV), Gd G h1 → Kp [] h h1 → 0 ≤ a1 → a1 ≤ 99 → (-9223372036854775808) ≤ a2 → a2 ≤ 9223372036854775807 → 0 ≤ x4 → x4 ≤ 99 → x4 ≤ m0 - 1 → (-9223372036854775808) ≤ x5 → x5 ≤ 9223372036854775807 → 0 ≤ x7 → x7 ≤ 100 → ((-x7) + 100) < N → jEv (jOk 2) none (fun _ => 0) c61_0 0 0 (PI G [] h 0 0 1) (c61_16, [(2, (r0 : Int)), (0, a1), (1, a2), (9, 0), (0, x4), (1, x5), (9, 0), (0, x7), j8, j9], [], h1, 0, 0)) := by
  intro N
  induction N with
  | zero => exact fun h1 x4 x5 x7 j8 j9 g1 k1 b0 b1 b2 b3 b4 b5 b6 b7 b8 b9 b10 hm => absurd hm (by omega)
  | succ N ih =>
    show _
    intro h1 x4 x5 x7 j8 j9 g1 k1 b0 b1 b2 b3 b4 b5 b6 b7 b8 b9 b10 hm
    have wr0 := g1.qb q0
    have zr0 := q0.1
    refine ev_iload rfl ?_
    refine ev_aload_n rfl ?_
    obtain ⟨v14868, ev14868, lv14868, uv14868⟩ := g1.q0 q0
    refine g_qgetv (v := v14868) g1 q0 ft4_0 ev14868 ?_
    refine ev_icmpge f61_175 (fun c14869 => ?_) (fun c14869 => ?_)
    · refine ev_iconst ?_
      exact ev_ret rfl (by decide) (by decide) ⟨_, rfl, by omega, by omega, g1, k1⟩
    · refine ev_aload_n rfl ?_
      obtain ⟨v14870, ev14870, lv14870, uv14870⟩ := g1.q1 q0
      refine g_qgetv (v := v14870) g1 q0 ft4_1 ev14870 ?_
      refine ev_iflt f61_175 (fun c14871 => ?_) (fun c14871 => ?_)
      · refine ev_iconst ?_
        exact ev_ret rfl (by decide) (by decide) ⟨_, rfl, by omega, by omega, g1, k1⟩
      · refine ev_iload rfl ?_
        refine ev_aload_n rfl ?_
        refine g_qgetv (v := v14870) g1 q0 ft4_1 (ev14870) ?_
        refine ev_icmple f61_175 (fun c14872 => ?_) (fun c14872 => ?_)
        · refine ev_iconst ?_
          exact ev_ret rfl (by decide) (by decide) ⟨_, rfl, by omega, by omega, g1, k1⟩
        · refine ev_aload_n rfl ?_
          refine g_qgetp g1 q0 (c := 7) (by decide) (by decide) ft4_7 ?_
          refine ev_iload rfl ?_
          refine g_qiald g1 q0 (c := 7) (by decide) (by decide) (by decide) (by omega) (by show x4 < m0; omega) rfl (fun v14873 ev14873 lv14873 uv14873 => ?_)
          refine ev_istore (L' := [(2, (r0 : Int)), (0, a1), (1, a2), (9, 0), (0, x4), (1, x5), (9, 0), (0, x7), (0, v14873), j9]) (Nat.le_of_ble_eq_true rfl) rfl ?_
          refine ev_iload rfl ?_
          refine ev_ifge f61_57 (fun c14874 => ?_) (fun c14874 => ?_)
          · refine ev_iload rfl ?_
            refine ev_aload_n rfl ?_
            refine g_qgetv (v := v14870) g1 q0 ft4_1 (ev14870) ?_
            refine ev_icmpne f61_92 (fun c14875 => ?_) (fun c14875 => ?_)
            · refine ev_aload_n rfl ?_
              refine g_qgetp g1 q0 (c := 2) (by decide) (by decide) ft4_2 ?_
              refine ev_iload rfl ?_
              refine g_qiald g1 q0 (c := 2) (by decide) (by decide) (by decide) (by omega) (by show v14873 < m0; omega) rfl (fun v14876 ev14876 lv14876 uv14876 => ?_)
              refine ev_iconst ?_
              refine ev_icmpne f61_145 (fun c14877 => ?_) (fun c14877 => ?_)
              · refine ev_lload rfl ?_
                refine ev_aload_n rfl ?_
                refine g_qgetp g1 q0 (c := 12) (by decide) (by decide) ft4_12 ?_
                refine ev_iload rfl ?_
                refine g_qlald g1 q0 (c := 12) (by decide) (by decide) (by decide) (by omega) (by show v14873 < m0; omega) rfl (fun v14878 ev14878 lv14878 uv14878 => ?_)
                refine ev_aload_n rfl ?_
                refine g_qgetp g1 q0 (c := 12) (by decide) (by decide) ft4_12 ?_
                refine ev_iload rfl ?_
                refine g_qlald g1 q0 (c := 12) (by decide) (by decide) (by decide) (by omega) (by show x4 < m0; omega) rfl (fun v14879 ev14879 lv14879 uv14879 => ?_)
                refine g_lsubG (fun v14880 ev14880 lv14880 uv14880 => ?_)
                refine g_laddG (fun v14881 ev14881 lv14881 uv14881 => ?_)
                refine ev_lstore (L' := [(2, (r0 : Int)), (0, a1), (1, a2), (9, 0), (0, x4), (1, v14881), (9, 0), (0, x7), (0, v14873), j9]) (Nat.le_of_ble_eq_true rfl) rfl ?_
                refine ev_iload rfl ?_
                refine ev_istore (L' := [(2, (r0 : Int)), (0, a1), (1, a2), (9, 0), (0, v14873), (1, v14881), (9, 0), (0, x7), (0, v14873), j9]) (Nat.le_of_ble_eq_true rfl) rfl ?_
                refine ev_iinc (w := (x7 + 1)) (L' := [(2, (r0 : Int)), (0, a1), (1, a2), (9, 0), (0, v14873), (1, v14881), (9, 0), (0, (x7 + 1)), (0, v14873), j9]) rfl (by unfold w32; omega) rfl ?_
                refine ev_goto f61_16 ?_
                exact ih _ _ _ _ _ _ g1 k1 (by omega) (by omega) (by omega) (by omega) (by omega) (by omega) (by omega) (by omega) (by omega) (by omega) (by omega) (by omega)
              · refine ev_aload_n rfl ?_
                refine ev_iload rfl ?_
                refine ev_aload_n rfl ?_
                refine ev_iload rfl ?_
                refine ev_iload rfl ?_
                refine ev_lload rfl ?_
                refine ev_call (jcall_v (A := [(1, x5), (0, x4), (0, v14873)]) (S' := [(0, v14873), (2, (r0 : Int))]) (r := r0) rfl (g1.qlt q0) (g1.qtg q0) (Nat.le_of_ble_eq_true rfl)) (jOk_le (by decide) (s45 g1 q0 (by omega) (by omega) (by omega) (by omega) (by omega) (by omega))) (by decide) (by decide) (fun w14882 h14882 q14882 => ?_)
                obtain ⟨v14883, rfl, lv14883, uv14883, g14882, kk14882⟩ := q14882
                have k14882 := k1.tr kk14882 (by decide)
                show jEv _ _ _ _ _ _ _ (_, [(2, (r0 : Int)), (0, a1), (1, a2), (9, 0), (0, x4), (1, x5), (9, 0), (0, x7), (0, v14873), j9], [(0, v14883), (0, v14873), (2, (r0 : Int))], _, _, _)
                refine ev_in (d := 1) (a := 0) (b := 0) (cd' := c30_0) (m := 3) (L0 := [(2, (r0 : Int)), (0, v14873), (0, v14883)]) (jcall_v (A := [(0, v14883), (0, v14873)]) (S' := []) (r := r0) rfl (g14882.qlt q0) (g14882.qtg q0) (Nat.le_of_ble_eq_true rfl)) (by decide) ml30 pp30 (Nat.le_of_ble_eq_true rfl) rfl (by decide) (by decide) ?_
                refine ev_aload_n rfl ?_
                refine g_qgetp g14882 q0 (c := 5) (by decide) (by decide) ft4_5 ?_
                refine ev_iconst ?_
                refine ev_iload_n rfl ?_
                refine ev_imul (r := (4 * v14873)) (by unfold w32; omega) ?_
                refine ev_iload_n rfl ?_
                refine ev_iadd (r := (4 * v14873 + v14883)) (by unfold w32; omega) ?_
                refine g_qiald g14882 q0 (c := 5) (by decide) (by decide) (by decide) (by omega) (by show (4 * v14873 + v14883) < 4 * m0; omega) rfl (fun v14884 ev14884 lv14884 uv14884 => ?_)
                refine ev_ret rfl (by decide) (by decide) ?_
                show jEv _ _ _ _ _ _ _ (_, [(2, (r0 : Int)), (0, a1), (1, a2), (9, 0), (0, x4), (1, x5), (9, 0), (0, x7), (0, v14873), j9], [(0, v14884)], _, _, _)
                refine ev_istore (L' := [(2, (r0 : Int)), (0, a1), (1, a2), (9, 0), (0, x4), (1, x5), (9, 0), (0, x7), (0, v14873), (0, v14884)]) (Nat.le_of_ble_eq_true rfl) rfl ?_
                refine ev_iload rfl ?_
                refine ev_iload rfl ?_
                refine ev_icmpne f61_133 (fun c14885 => ?_) (fun c14885 => ?_)
                · refine ev_aload_n rfl ?_
                  refine g_qgetp g14882 q0 (c := 12) (by decide) (by decide) ft4_12 ?_
                  refine ev_iload rfl ?_
                  refine g_qlald g14882 q0 (c := 12) (by decide) (by decide) (by decide) (by omega) (by show v14884 < m0; omega) rfl (fun v14886 ev14886 lv14886 uv14886 => ?_)
                  refine ev_lstore (L' := [(2, (r0 : Int)), (0, a1), (1, a2), (9, 0), (0, x4), (1, v14886), (9, 0), (0, x7), (0, v14873), (0, v14884)]) (Nat.le_of_ble_eq_true rfl) rfl ?_
                  refine ev_goto f61_165 ?_
                  refine ev_iload rfl ?_
                  refine ev_istore (L' := [(2, (r0 : Int)), (0, a1), (1, a2), (9, 0), (0, v14873), (1, v14886), (9, 0), (0, x7), (0, v14873), (0, v14884)]) (Nat.le_of_ble_eq_true rfl) rfl ?_
                  refine ev_iinc (w := (x7 + 1)) (L' := [(2, (r0 : Int)), (0, a1), (1, a2), (9, 0), (0, v14873), (1, v14886), (9, 0), (0, (x7 + 1)), (0, v14873), (0, v14884)]) rfl (by unfold w32; omega) rfl ?_
                  refine ev_goto f61_16 ?_
                  exact ih _ _ _ _ _ _ g14882 k14882 (by omega) (by omega) (by omega) (by omega) (by omega) (by omega) (by omega) (by omega) (by omega) (by omega) (by omega) (by omega)
                · refine ev_lload rfl ?_
                  refine ev_goto f61_140 ?_
                  refine ev_lstore (L' := [(2, (r0 : Int)), (0, a1), (1, a2), (9, 0), (0, x4), (1, x5), (9, 0), (0, x7), (0, v14873), (0, v14884)]) (Nat.le_of_ble_eq_true rfl) rfl ?_
                  refine ev_goto f61_165 ?_
                  refine ev_iload rfl ?_
                  refine ev_istore (L' := [(2, (r0 : Int)), (0, a1), (1, a2), (9, 0), (0, v14873), (1, x5), (9, 0), (0, x7), (0, v14873), (0, v14884)]) (Nat.le_of_ble_eq_true rfl) rfl ?_
                  refine ev_iinc (w := (x7 + 1)) (L' := [(2, (r0 : Int)), (0, a1), (1, a2), (9, 0), (0, v14873), (1, x5), (9, 0), (0, (x7 + 1)), (0, v14873), (0, v14884)]) rfl (by unfold w32; omega) rfl ?_
                  refine ev_goto f61_16 ?_
                  exact ih _ _ _ _ _ _ g14882 k14882 (by omega) (by omega) (by omega) (by omega) (by omega) (by omega) (by omega) (by omega) (by omega) (by omega) (by omega) (by omega)
            · refine ev_aload_n rfl ?_
              refine ev_iload rfl ?_
              refine ev_iload rfl ?_
              refine ev_lload rfl ?_
              refine ev_call (jcall_v (A := [(1, x5), (0, x4), (0, v14873)]) (S' := []) (r := r0) rfl (g1.qlt q0) (g1.qtg q0) (Nat.le_of_ble_eq_true rfl)) (jOk_le (by decide) (s45 g1 q0 (by omega) (by omega) (by omega) (by omega) (by omega) (by omega))) (by decide) (by decide) (fun w14887 h14887 q14887 => ?_)
              obtain ⟨v14888, rfl, lv14888, uv14888, g14887, kk14887⟩ := q14887
              have k14887 := k1.tr kk14887 (by decide)
              show jEv _ _ _ _ _ _ _ (_, [(2, (r0 : Int)), (0, a1), (1, a2), (9, 0), (0, x4), (1, x5), (9, 0), (0, x7), (0, v14873), j9], [(0, v14888)], _, _, _)
              refine ev_aload_n rfl ?_
              refine g_qgetp g14887 q0 (c := 10) (by decide) (by decide) ft4_10 ?_
              refine ev_iload rfl ?_
              refine g_qiald g14887 q0 (c := 10) (by decide) (by decide) (by decide) (by omega) (by show v14873 < m0; omega) rfl (fun v14889 ev14889 lv14889 uv14889 => ?_)
              refine ev_icmpeq f61_90 (fun c14890 => ?_) (fun c14890 => ?_)
              · refine ev_iconst ?_
                exact ev_ret rfl (by decide) (by decide) ⟨_, rfl, by omega, by omega, g14887, k14887⟩
              · refine ev_iconst ?_
                refine ev_goto f61_91 ?_
                exact ev_ret rfl (by decide) (by decide) ⟨_, rfl, by omega, by omega, g14887, k14887⟩
          · refine ev_iconst ?_
            exact ev_ret rfl (by decide) (by decide) ⟨_, rfl, by omega, by omega, g1, k1⟩
set_option maxHeartbeats 4000000 in
theorem s61 {G : GH} {h : JH} (g : Gd G h) {r0 : Nat} {m0 : Int} (q0 : IsQ G r0 m0) {a1 : Int} (la1 : 0 ≤ a1) (ua1 : a1 ≤ m0 - 1) {a2 : Int} (la2 : (-9223372036854775808) ≤ a2) (ua2 : a2 ≤ 9223372036854775807) : jOk 3 0 0 61 [(2, (r0 : Int)), (0, a1), (1, a2)] h (PI G [] h 0 0 1) := by
  refine ⟨by decide, by rw [ml61]; exact Nat.le_of_ble_eq_true rfl, ?_⟩
  rw [ml61, pp61]
  show jEv _ none _ c61_0 0 0 _ (c61_0, [(2, (r0 : Int)), (0, a1), (1, a2), (9, 0), (9, 0), (9, 0), (9, 0), (9, 0), (9, 0), (9, 0)], [], h, 0, 0)
  have k0 := Kp.rf [] h
  have wr0 := g.qb q0
  have zr0 := q0.1
  refine ev_iload_n rfl ?_
  refine ev_istore (L' := [(2, (r0 : Int)), (0, a1), (1, a2), (9, 0), (0, a1), (9, 0), (9, 0), (9, 0), (9, 0), (9, 0)]) (Nat.le_of_ble_eq_true rfl) rfl ?_
  refine ev_aload_n rfl ?_
  refine g_qgetp g q0 (c := 12) (by decide) (by decide) ft4_12 ?_
  refine ev_iload_n rfl ?_
  refine g_qlald g q0 (c := 12) (by decide) (by decide) (by decide) (by omega) (by show a1 < m0; omega) rfl (fun v14891 ev14891 lv14891 uv14891 => ?_)
  refine ev_lload_n rfl ?_
  refine g_laddG (fun v14892 ev14892 lv14892 uv14892 => ?_)
  refine ev_lstore (L' := [(2, (r0 : Int)), (0, a1), (1, a2), (9, 0), (0, a1), (1, v14892), (9, 0), (9, 0), (9, 0), (9, 0)]) (Nat.le_of_ble_eq_true rfl) rfl ?_
  refine ev_iconst ?_
  refine ev_istore (L' := [(2, (r0 : Int)), (0, a1), (1, a2), (9, 0), (0, a1), (1, v14892), (9, 0), (0, 0), (9, 0), (9, 0)]) (Nat.le_of_ble_eq_true rfl) rfl ?_
  exact (s61_l q0 la1 ua1 la2 ua2 202) _ _ _ _ _ _ g k0 (by omega) (by omega) (by omega) (by omega) (by omega) (by omega) (by omega) (by omega) (by omega) (by omega) (by omega) (by omega)
/-! 60 movesToTurn -/
set_option maxHeartbeats 4000000 in
theorem s60_l {G : GH} {h : JH} {r0 : Nat} {m0 : Int} (q0 : IsQ G r0 m0) {a2 : Int} (la2 : 0 ≤ a2) (ua2 : a2 ≤ m0 - 1) {a3 : Int} (la3 : (-1) ≤ a3) (ua3 : a3 ≤ 3) {a4 : Int} (la4 : 0 ≤ a4) (ua4 : a4 ≤ 1) {a5 : Int} (la5 : 0 ≤ a5) (ua5 : a5 ≤ 40) : ∀ N : Nat, (∀ (h1 : JH) (x6 x7 x8 x9 x10 x12 : Int), Gd G h1 → Kp [] h h1 → 0 ≤ a2 → a2 ≤ 99 → (-1) ≤ a3 → a3 ≤ 3 → 0 ≤ a4 → a4 ≤ 1 → 1 ≤ a5 → a5 ≤ 40 → 0 ≤ x6 → x6 ≤ 99 → x6 ≤ m0 - 1 → (-2147483648) ≤ x7 → x7 ≤ 2147483647 → 99 ≤ x8 → x8 ≤ 999 → 1 ≤ x9 → x9 ≤ 40 → (-9223372036854775808) ≤ x10 → x10 ≤ 9223372036854775807 → 1 ≤ x12 → x12 ≤ 40 → ((-x12) + 40) < N → jEv (jOk 3) none (fun _ => 0) c60_0 0 0 (PI G [] h 0 0 40) (c60_154, [(2, (r0 : Int)), (2, 1), (0, a2), (0, a3), (0, a4), (0, a5), (0, x6), (0, x7), (0, x8), (0, x9), (1, x10), (9, 0), (0, x12)], [], h1, 0, 0)) := by
  intro N
  induction N with
  | zero => exact fun h1 x6 x7 x8 x9 x10 x12 g1 k1 b0 b1 b2 b3 b4 b5 b6 b7 b8 b9 b10 b11 b12 b13 b14 b15 b16 b17 b18 b19 b20 hm => absurd hm (by omega)
  | succ N ih =>
    show _
    intro h1 x6 x7 x8 x9 x10 x12 g1 k1 b0 b1 b2 b3 b4 b5 b6 b7 b8 b9 b10 b11 b12 b13 b14 b15 b16 b17 b18 b19 b20 hm
    have wr0 := g1.qb q0
    have zr0 := q0.1
    refine ev_iload rfl ?_
    refine ev_iload rfl ?_
    refine ev_icmpge f60_185 (fun c15428 => ?_) (fun c15428 => ?_)
    · refine ev_iload rfl ?_
      exact ev_ret rfl (by decide) (by decide) ⟨_, rfl, by omega, by omega, g1, k1⟩
    · refine ev_aload_n rfl ?_
      refine ev_iload rfl ?_
      refine ev_iload rfl ?_
      refine ev_i2l ?_
      refine ev_lload rfl ?_
      refine g_lmulG (fun v15429 ev15429 lv15429 uv15429 => ?_)
      refine ev_call (jcall_v (A := [(1, v15429), (0, x6)]) (S' := []) (r := r0) rfl (g1.qlt q0) (g1.qtg q0) (Nat.le_of_ble_eq_true rfl)) (jOk_le (by decide) (s61 g1 q0 (by omega) (by omega) (by omega) (by omega))) (by decide) (by decide) (fun w15430 h15430 q15430 => ?_)
      obtain ⟨v15431, rfl, lv15431, uv15431, g15430, kk15430⟩ := q15430
      have k15430 := k1.tr kk15430 (by decide)
      show jEv _ _ _ _ _ _ _ (_, [(2, (r0 : Int)), (2, 1), (0, a2), (0, a3), (0, a4), (0, a5), (0, x6), (0, x7), (0, x8), (0, x9), (1, x10), (9, 0), (0, x12)], [(0, v15431)], _, _, _)
      refine ev_ifeq f60_179 (fun c15432 => ?_) (fun c15432 => ?_)
      · refine ev_iinc (w := (x12 + 1)) (L' := [(2, (r0 : Int)), (2, 1), (0, a2), (0, a3), (0, a4), (0, a5), (0, x6), (0, x7), (0, x8), (0, x9), (1, x10), (9, 0), (0, (x12 + 1))]) rfl (by unfold w32; omega) rfl ?_
        refine ev_goto f60_154 ?_
        exact ih _ _ _ _ _ _ _ g15430 k15430 (by omega) (by omega) (by omega) (by omega) (by omega) (by omega) (by omega) (by omega) (by omega) (by omega) (by omega) (by omega) (by omega) (by omega) (by omega) (by omega) (by omega) (by omega) (by omega) (by omega) (by omega) (by omega)
      · refine ev_iload rfl ?_
        exact ev_ret rfl (by decide) (by decide) ⟨_, rfl, by omega, by omega, g15430, k15430⟩
set_option maxHeartbeats 4000000 in
theorem s60 {G : GH} {h : JH} (g : Gd G h) {r0 : Nat} {m0 : Int} (q0 : IsQ G r0 m0) {a2 : Int} (la2 : 0 ≤ a2) (ua2 : a2 ≤ m0 - 1) {a3 : Int} (la3 : (-1) ≤ a3) (ua3 : a3 ≤ 3) {a4 : Int} (la4 : 0 ≤ a4) (ua4 : a4 ≤ 1) {a5 : Int} (la5 : 0 ≤ a5) (ua5 : a5 ≤ 40) : jOk 4 0 0 60 [(2, (r0 : Int)), (2, 1), (0, a2), (0, a3), (0, a4), (0, a5)] h (PI G [] h 0 0 40) := by
  refine ⟨by decide, by rw [ml60]; exact Nat.le_of_ble_eq_true rfl, ?_⟩
  rw [ml60, pp60]
  show jEv _ none _ c60_0 0 0 _ (c60_0, [(2, (r0 : Int)), (2, 1), (0, a2), (0, a3), (0, a4), (0, a5), (9, 0), (9, 0), (9, 0), (9, 0), (9, 0), (9, 0), (9, 0)], [], h, 0, 0)
  have k0 := Kp.rf [] h
  have wr0 := g.qb q0
  have zr0 := q0.1
  refine ev_iload_n rfl ?_
  refine ev_iconst ?_
  refine ev_icmpne f60_9 (fun c15433 => ?_) (fun c15433 => ?_)
  · refine ev_aload_n rfl ?_
    refine ev_iload_n rfl ?_
    refine ev_iload_n rfl ?_
    refine ev_in (d := 2) (a := 0) (b := 0) (cd' := c30_0) (m := 3) (L0 := [(2, (r0 : Int)), (0, a2), (0, a3)]) (jcall_v (A := [(0, a3), (0, a2)]) (S' := []) (r := r0) rfl (g.qlt q0) (g.qtg q0) (Nat.le_of_ble_eq_true rfl)) (by decide) ml30 pp30 (Nat.le_of_ble_eq_true rfl) rfl (by decide) (by decide) ?_
    refine ev_aload_n rfl ?_
    refine g_qgetp g q0 (c := 5) (by decide) (by decide) ft4_5 ?_
    refine ev_iconst ?_
    refine ev_iload_n rfl ?_
    refine ev_imul (r := (4 * a2)) (by unfold w32; omega) ?_
    refine ev_iload_n rfl ?_
    refine ev_iadd (r := (4 * a2 + a3)) (by unfold w32; omega) ?_
    refine g_qiald g q0 (c := 5) (by decide) (by decide) (by decide) (by omega) (by show (4 * a2 + a3) < 4 * m0; omega) rfl (fun v15434 ev15434 lv15434 uv15434 => ?_)
    refine ev_ret rfl (by decide) (by decide) ?_
    show jEv _ _ _ _ _ _ _ (_, [(2, (r0 : Int)), (2, 1), (0, a2), (0, a3), (0, a4), (0, a5), (9, 0), (9, 0), (9, 0), (9, 0), (9, 0), (9, 0), (9, 0)], [(0, v15434)], _, _, _)
    refine ev_istore (L' := [(2, (r0 : Int)), (2, 1), (0, a2), (0, a3), (0, a4), (0, a5), (0, v15434), (9, 0), (9, 0), (9, 0), (9, 0), (9, 0), (9, 0)]) (Nat.le_of_ble_eq_true rfl) rfl ?_
    refine ev_aload_n rfl ?_
    refine ev_iload_n rfl ?_
    refine ev_iload_n rfl ?_
    refine ev_in (d := 2) (a := 0) (b := 0) (cd' := c34_0) (m := 3) (L0 := [(2, (r0 : Int)), (0, a2), (0, a3)]) (jcall_v (A := [(0, a3), (0, a2)]) (S' := []) (r := r0) rfl (g.qlt q0) (g.qtg q0) (Nat.le_of_ble_eq_true rfl)) (by decide) ml34 pp34 (Nat.le_of_ble_eq_true rfl) rfl (by decide) (by decide) ?_
    refine ev_iload_n rfl ?_
    refine ev_iconst ?_
    refine ev_icmpne f34_14 (fun c15435 => ?_) (fun c15435 => absurd c15435 (by omega))
    refine ev_aload_n rfl ?_
    refine ev_iload_n rfl ?_
    refine ev_iload_n rfl ?_
    refine ev_in (d := 1) (a := 0) (b := 0) (cd' := c31_0) (m := 3) (L0 := [(2, (r0 : Int)), (0, a2), (0, a3)]) (jcall_v (A := [(0, a3), (0, a2)]) (S' := []) (r := r0) rfl (g.qlt q0) (g.qtg q0) (Nat.le_of_ble_eq_true rfl)) (by decide) ml31 pp31 (Nat.le_of_ble_eq_true rfl) rfl (by decide) (by decide) ?_
    refine ev_aload_n rfl ?_
    refine g_qgetp g q0 (c := 6) (by decide) (by decide) ft4_6 ?_
    refine ev_iconst ?_
    refine ev_iload_n rfl ?_
    refine ev_imul (r := (4 * a2)) (by unfold w32; omega) ?_
    refine ev_iload_n rfl ?_
    refine ev_iadd (r := (4 * a2 + a3)) (by unfold w32; omega) ?_
    refine g_qiald g q0 (c := 6) (by decide) (by decide) (by decide) (by omega) (by show (4 * a2 + a3) < 4 * m0; omega) rfl (fun v15436 ev15436 lv15436 uv15436 => ?_)
    refine ev_ret rfl (by decide) (by decide) ?_
    show jEv _ _ _ _ _ _ _ (_, [(2, (r0 : Int)), (0, a2), (0, a3)], [(0, v15436)], _, _, _)
    refine ev_ret rfl (by decide) (by decide) ?_
    show jEv _ _ _ _ _ _ _ (_, [(2, (r0 : Int)), (2, 1), (0, a2), (0, a3), (0, a4), (0, a5), (0, v15434), (9, 0), (9, 0), (9, 0), (9, 0), (9, 0), (9, 0)], [(0, v15436)], _, _, _)
    refine ev_istore (L' := [(2, (r0 : Int)), (2, 1), (0, a2), (0, a3), (0, a4), (0, a5), (0, v15434), (0, v15436), (9, 0), (9, 0), (9, 0), (9, 0), (9, 0)]) (Nat.le_of_ble_eq_true rfl) rfl ?_
    refine ev_iload_n rfl ?_
    refine ev_iconst ?_
    refine ev_icmpne f60_36 (fun c15437 => ?_) (fun c15437 => absurd c15437 (by omega))
    refine ev_bipush ?_
    refine ev_istore (L' := [(2, (r0 : Int)), (2, 1), (0, a2), (0, a3), (0, a4), (0, a5), (0, v15434), (0, v15436), (0, 99), (9, 0), (9, 0), (9, 0), (9, 0)]) (Nat.le_of_ble_eq_true rfl) rfl ?_
    refine ev_iload rfl ?_
    refine ev_iload rfl ?_
    refine ev_iconst ?_
    refine ev_icmpne f60_56 (fun c15438 => ?_) (fun c15438 => ?_)
    · refine ev_iload_n rfl ?_
      refine ev_iconst ?_
      refine ev_icmpne f60_70 (fun c15439 => ?_) (fun c15439 => absurd c15439 (by omega))
      refine ev_iload rfl ?_
      refine ev_in (d := 2) (a := 0) (b := 0) (cd' := c381_0) (m := 2) (L0 := [(0, a5), (0, v15436)]) (jcall_s (A := [(0, v15436), (0, a5)]) (S' := []) (by decide) rfl (Nat.le_of_ble_eq_true rfl)) (by decide) ml381 pp381 (Nat.le_of_ble_eq_true rfl) rfl (by decide) (by decide) ?_
      refine ev_iload_n rfl ?_
      refine ev_iload_n rfl ?_
      refine ev_icmpgt f381_9 (fun c15440 => ?_) (fun c15440 => ?_)
      · refine ev_iload_n rfl ?_
        refine ev_ret rfl (by decide) (by decide) ?_
        show jEv _ _ _ _ _ _ _ (_, [(2, (r0 : Int)), (2, 1), (0, a2), (0, a3), (0, a4), (0, a5), (0, v15434), (0, v15436), (0, 99), (9, 0), (9, 0), (9, 0), (9, 0)], [(0, v15436)], _, _, _)
        refine ev_istore (L' := [(2, (r0 : Int)), (2, 1), (0, a2), (0, a3), (0, a4), (0, a5), (0, v15434), (0, v15436), (0, 99), (0, v15436), (9, 0), (9, 0), (9, 0)]) (Nat.le_of_ble_eq_true rfl) rfl ?_
        refine ev_iload_n rfl ?_
        refine ev_iconst ?_
        refine ev_icmpne f60_86 (fun c15441 => ?_) (fun c15441 => absurd c15441 (by omega))
        refine ev_iconst ?_
        refine ev_iload rfl ?_
        refine ev_iconst ?_
        refine ev_icmpne f60_97 (fun c15442 => ?_) (fun c15442 => absurd c15442 (by omega))
        refine ev_iconst ?_
        refine ev_icmpne f60_115 (fun c15443 => absurd c15443 (by omega)) (fun c15443 => ?_)
        refine ev_ldc2_w ?_
        refine ev_aload_n rfl ?_
        refine ev_aload_n rfl ?_
        refine ev_iload rfl ?_
        refine ev_in (d := 2) (a := 0) (b := 0) (cd' := c58_0) (m := 3) (L0 := [(2, (r0 : Int)), (2, 1), (0, v15434)]) (jcall_v (A := [(0, v15434), (2, 1)]) (S' := [(1, 100)]) (r := r0) rfl (g.qlt q0) (g.qtg q0) (Nat.le_of_ble_eq_true rfl)) (by decide) ml58 pp58 (Nat.le_of_ble_eq_true rfl) rfl (by decide) (by decide) ?_
        refine ev_aload_n rfl ?_
        refine ev_aload_n rfl ?_
        refine g_qgetp g q0 (c := 8) (by decide) (by decide) ft4_8 ?_
        refine ev_iload_n rfl ?_
        refine g_qiald g q0 (c := 8) (by decide) (by decide) (by decide) (by omega) (by show v15434 < m0; omega) rfl (fun v15444 ev15444 lv15444 uv15444 => ?_)
        refine ev_in (d := 1) (a := 0) (b := 0) (cd' := c161_0) (m := 2) (L0 := [(2, 1), (0, v15444)]) (jcall_v (A := [(0, v15444)]) (S' := []) (r := 1) rfl (g.lt ad1) (g.tg ad1) (Nat.le_of_ble_eq_true rfl)) (by decide) ml161 pp161 (Nat.le_of_ble_eq_true rfl) rfl (by decide) (by decide) ?_
        refine ev_iload_n rfl ?_
        refine ev_iflt f161_12 (fun c15445 => ?_) (fun c15445 => ?_)
        · refine ev_lconst ?_
          refine ev_goto f161_22 ?_
          refine ev_ret rfl (by decide) (by decide) ?_
          show jEv _ _ _ _ _ _ _ (_, [(2, (r0 : Int)), (2, 1), (0, v15434)], [(1, 0)], _, _, _)
          refine ev_ret rfl (by decide) (by decide) ?_
          show jEv _ _ _ _ _ _ _ (_, [(2, (r0 : Int)), (2, 1), (0, a2), (0, a3), (0, a4), (0, a5), (0, v15434), (0, v15436), (0, 99), (0, v15436), (9, 0), (9, 0), (9, 0)], [(1, 0), (1, 100)], _, _, _)
          refine ev_lmul (r := 0) (by decide) ?_
          refine ev_goto f60_126 ?_
          refine ev_lstore (L' := [(2, (r0 : Int)), (2, 1), (0, a2), (0, a3), (0, a4), (0, a5), (0, v15434), (0, v15436), (0, 99), (0, v15436), (1, 0), (9, 0), (9, 0)]) (Nat.le_of_ble_eq_true rfl) rfl ?_
          refine ev_iload rfl ?_
          refine ev_iconst ?_
          refine ev_icmplt f60_149 (fun c15446 => ?_) (fun c15446 => ?_)
          · refine ev_iconst ?_
            exact ev_ret rfl (by decide) (by decide) ⟨_, rfl, by omega, by omega, g, k0⟩
          · refine ev_aload_n rfl ?_
            refine ev_iload rfl ?_
            refine ev_iload rfl ?_
            refine ev_i2l ?_
            refine ev_lload rfl ?_
            refine ev_lmul (r := 0) (by unfold w64; omega) ?_
            refine ev_call (jcall_v (A := [(1, 0), (0, v15434)]) (S' := []) (r := r0) rfl (g.qlt q0) (g.qtg q0) (Nat.le_of_ble_eq_true rfl)) (jOk_le (by decide) (s61 g q0 (by omega) (by omega) (by omega) (by omega))) (by decide) (by decide) (fun w15447 h15447 q15447 => ?_)
            obtain ⟨v15448, rfl, lv15448, uv15448, g15447, kk15447⟩ := q15447
            have k15447 := k0.tr kk15447 (by decide)
            show jEv _ _ _ _ _ _ _ (_, [(2, (r0 : Int)), (2, 1), (0, a2), (0, a3), (0, a4), (0, a5), (0, v15434), (0, v15436), (0, 99), (0, v15436), (1, 0), (9, 0), (9, 0)], [(0, v15448)], _, _, _)
            refine ev_ifne f60_151 (fun c15449 => ?_) (fun c15449 => ?_)
            · refine ev_iconst ?_
              refine ev_istore (L' := [(2, (r0 : Int)), (2, 1), (0, a2), (0, a3), (0, a4), (0, a5), (0, v15434), (0, v15436), (0, 99), (0, v15436), (1, 0), (9, 0), (0, 1)]) (Nat.le_of_ble_eq_true rfl) rfl ?_
              exact (s60_l q0 la2 ua2 la3 ua3 la4 ua4 la5 ua5 80) _ _ _ _ _ _ _ g15447 k15447 (by omega) (by omega) (by omega) (by omega) (by omega) (by omega) (by omega) (by omega) (by omega) (by omega) (by omega) (by omega) (by omega) (by omega) (by omega) (by omega) (by omega) (by omega) (by omega) (by omega) (by omega) (by omega)
            · refine ev_iconst ?_
              exact ev_ret rfl (by decide) (by decide) ⟨_, rfl, by omega, by omega, g15447, k15447⟩
        · refine ev_iload_n rfl ?_
          refine ev_aload_n rfl ?_
          refine ev_in (d := 0) (a := 0) (b := 0) (cd' := c157_0) (m := 1) (L0 := [(2, 1)]) (jcall_v (A := []) (S' := [(0, v15444)]) (r := 1) rfl (g.lt ad1) (g.tg ad1) (Nat.le_of_ble_eq_true rfl)) (by decide) ml157 pp157 (Nat.le_of_ble_eq_true rfl) rfl (by decide) (by decide) ?_
          refine ev_iconst ?_
          refine ev_iconst ?_
          refine ev_aload_n rfl ?_
          obtain ⟨v15450, ev15450, lv15450, uv15450⟩ := g.rd ad1 (show 0 < 8 by decide) rf1_0
          refine g_getv (r := 1) (v := v15450) g ad1 (by decide) ft10_0 ev15450 ?_
          refine ev_imul (r := (2 * v15450)) (by unfold w32; omega) ?_
          refine g_ishlB (a' := 1) (a := 1) (b := 8) (hi := 256) (by omega) (by omega) (by omega) (by omega) (by decide) (by decide) (fun v15451 ev15451 lv15451 uv15451 => ?_)
          refine ev_ret rfl (by decide) (by decide) ?_
          show jEv _ _ _ _ _ _ _ (_, [(2, 1), (0, v15444)], [(0, v15451), (0, v15444)], _, _, _)
          refine ev_icmplt f161_16 (fun c15452 => ?_) (fun c15452 => ?_)
          · refine ev_aload_n rfl ?_
            refine g_getp (r := 1) (c := 6) g ad1 (by decide) (by decide) rf1_7 ft10_7 ?_
            refine ev_iload_n rfl ?_
            refine g_lald g ad6 rt6 (by omega) (by omega) (fun v15453 ev15453 lv15453 uv15453 => ?_)
            refine ev_ret rfl (by decide) (by decide) ?_
            show jEv _ _ _ _ _ _ _ (_, [(2, (r0 : Int)), (2, 1), (0, v15434)], [(1, v15453)], _, _, _)
            refine ev_ret rfl (by decide) (by decide) ?_
            show jEv _ _ _ _ _ _ _ (_, [(2, (r0 : Int)), (2, 1), (0, a2), (0, a3), (0, a4), (0, a5), (0, v15434), (0, v15436), (0, 99), (0, v15436), (9, 0), (9, 0), (9, 0)], [(1, v15453), (1, 100)], _, _, _)
            refine g_lmulG (fun v15454 ev15454 lv15454 uv15454 => ?_)
            refine ev_goto f60_126 ?_
            refine ev_lstore (L' := [(2, (r0 : Int)), (2, 1), (0, a2), (0, a3), (0, a4), (0, a5), (0, v15434), (0, v15436), (0, 99), (0, v15436), (1, v15454), (9, 0), (9, 0)]) (Nat.le_of_ble_eq_true rfl) rfl ?_
            refine ev_iload rfl ?_
            refine ev_iconst ?_
            refine ev_icmplt f60_149 (fun c15455 => ?_) (fun c15455 => ?_)
            · refine ev_iconst ?_
              exact ev_ret rfl (by decide) (by decide) ⟨_, rfl, by omega, by omega, g, k0⟩
            · refine ev_aload_n rfl ?_
              refine ev_iload rfl ?_
              refine ev_iload rfl ?_
              refine ev_i2l ?_
              refine ev_lload rfl ?_
              refine g_lmulG (fun v15456 ev15456 lv15456 uv15456 => ?_)
              refine ev_call (jcall_v (A := [(1, v15456), (0, v15434)]) (S' := []) (r := r0) rfl (g.qlt q0) (g.qtg q0) (Nat.le_of_ble_eq_true rfl)) (jOk_le (by decide) (s61 g q0 (by omega) (by omega) (by omega) (by omega))) (by decide) (by decide) (fun w15457 h15457 q15457 => ?_)
              obtain ⟨v15458, rfl, lv15458, uv15458, g15457, kk15457⟩ := q15457
              have k15457 := k0.tr kk15457 (by decide)
              show jEv _ _ _ _ _ _ _ (_, [(2, (r0 : Int)), (2, 1), (0, a2), (0, a3), (0, a4), (0, a5), (0, v15434), (0, v15436), (0, 99), (0, v15436), (1, v15454), (9, 0), (9, 0)], [(0, v15458)], _, _, _)
              refine ev_ifne f60_151 (fun c15459 => ?_) (fun c15459 => ?_)
              · refine ev_iconst ?_
                refine ev_istore (L' := [(2, (r0 : Int)), (2, 1), (0, a2), (0, a3), (0, a4), (0, a5), (0, v15434), (0, v15436), (0, 99), (0, v15436), (1, v15454), (9, 0), (0, 1)]) (Nat.le_of_ble_eq_true rfl) rfl ?_
                exact (s60_l q0 la2 ua2 la3 ua3 la4 ua4 la5 ua5 80) _ _ _ _ _ _ _ g15457 k15457 (by omega) (by omega) (by omega) (by omega) (by omega) (by omega) (by omega) (by omega) (by omega) (by omega) (by omega) (by omega) (by omega) (by omega) (by omega) (by omega) (by omega) (by omega) (by omega) (by omega) (by omega) (by omega)
              · refine ev_iconst ?_
                exact ev_ret rfl (by decide) (by decide) ⟨_, rfl, by omega, by omega, g15457, k15457⟩
          · refine ev_lconst ?_
            refine ev_goto f161_22 ?_
            refine ev_ret rfl (by decide) (by decide) ?_
            show jEv _ _ _ _ _ _ _ (_, [(2, (r0 : Int)), (2, 1), (0, v15434)], [(1, 0)], _, _, _)
            refine ev_ret rfl (by decide) (by decide) ?_
            show jEv _ _ _ _ _ _ _ (_, [(2, (r0 : Int)), (2, 1), (0, a2), (0, a3), (0, a4), (0, a5), (0, v15434), (0, v15436), (0, 99), (0, v15436), (9, 0), (9, 0), (9, 0)], [(1, 0), (1, 100)], _, _, _)
            refine ev_lmul (r := 0) (by decide) ?_
            refine ev_goto f60_126 ?_
            refine ev_lstore (L' := [(2, (r0 : Int)), (2, 1), (0, a2), (0, a3), (0, a4), (0, a5), (0, v15434), (0, v15436), (0, 99), (0, v15436), (1, 0), (9, 0), (9, 0)]) (Nat.le_of_ble_eq_true rfl) rfl ?_
            refine ev_iload rfl ?_
            refine ev_iconst ?_
            refine ev_icmplt f60_149 (fun c15460 => ?_) (fun c15460 => ?_)
            · refine ev_iconst ?_
              exact ev_ret rfl (by decide) (by decide) ⟨_, rfl, by omega, by omega, g, k0⟩
            · refine ev_aload_n rfl ?_
              refine ev_iload rfl ?_
              refine ev_iload rfl ?_
              refine ev_i2l ?_
              refine ev_lload rfl ?_
              refine ev_lmul (r := 0) (by unfold w64; omega) ?_
              refine ev_call (jcall_v (A := [(1, 0), (0, v15434)]) (S' := []) (r := r0) rfl (g.qlt q0) (g.qtg q0) (Nat.le_of_ble_eq_true rfl)) (jOk_le (by decide) (s61 g q0 (by omega) (by omega) (by omega) (by omega))) (by decide) (by decide) (fun w15461 h15461 q15461 => ?_)
              obtain ⟨v15462, rfl, lv15462, uv15462, g15461, kk15461⟩ := q15461
              have k15461 := k0.tr kk15461 (by decide)
              show jEv _ _ _ _ _ _ _ (_, [(2, (r0 : Int)), (2, 1), (0, a2), (0, a3), (0, a4), (0, a5), (0, v15434), (0, v15436), (0, 99), (0, v15436), (1, 0), (9, 0), (9, 0)], [(0, v15462)], _, _, _)
              refine ev_ifne f60_151 (fun c15463 => ?_) (fun c15463 => ?_)
              · refine ev_iconst ?_
                refine ev_istore (L' := [(2, (r0 : Int)), (2, 1), (0, a2), (0, a3), (0, a4), (0, a5), (0, v15434), (0, v15436), (0, 99), (0, v15436), (1, 0), (9, 0), (0, 1)]) (Nat.le_of_ble_eq_true rfl) rfl ?_
                exact (s60_l q0 la2 ua2 la3 ua3 la4 ua4 la5 ua5 80) _ _ _ _ _ _ _ g15461 k15461 (by omega) (by omega) (by omega) (by omega) (by omega) (by omega) (by omega) (by omega) (by omega) (by omega) (by omega) (by omega) (by omega) (by omega) (by omega) (by omega) (by omega) (by omega) (by omega) (by omega) (by omega) (by omega)
              · refine ev_iconst ?_
                exact ev_ret rfl (by decide) (by decide) ⟨_, rfl, by omega, by omega, g15461, k15461⟩
      · refine ev_iload_n rfl ?_
        refine ev_goto f381_10 ?_
        refine ev_ret rfl (by decide) (by decide) ?_
        show jEv _ _ _ _ _ _ _ (_, [(2, (r0 : Int)), (2, 1), (0, a2), (0, a3), (0, a4), (0, a5), (0, v15434), (0, v15436), (0, 99), (9, 0), (9, 0), (9, 0), (9, 0)], [(0, a5)], _, _, _)
        refine ev_istore (L' := [(2, (r0 : Int)), (2, 1), (0, a2), (0, a3), (0, a4), (0, a5), (0, v15434), (0, v15436), (0, 99), (0, a5), (9, 0), (9, 0), (9, 0)]) (Nat.le_of_ble_eq_true rfl) rfl ?_
        refine ev_iload_n rfl ?_
        refine ev_iconst ?_
        refine ev_icmpne f60_86 (fun c15464 => ?_) (fun c15464 => absurd c15464 (by omega))
        refine ev_iconst ?_
        refine ev_iload rfl ?_
        refine ev_iconst ?_
        refine ev_icmpne f60_97 (fun c15465 => ?_) (fun c15465 => absurd c15465 (by omega))
        refine ev_iconst ?_
        refine ev_icmpne f60_115 (fun c15466 => absurd c15466 (by omega)) (fun c15466 => ?_)
        refine ev_ldc2_w ?_
        refine ev_aload_n rfl ?_
        refine ev_aload_n rfl ?_
        refine ev_iload rfl ?_
        refine ev_in (d := 2) (a := 0) (b := 0) (cd' := c58_0) (m := 3) (L0 := [(2, (r0 : Int)), (2, 1), (0, v15434)]) (jcall_v (A := [(0, v15434), (2, 1)]) (S' := [(1, 100)]) (r := r0) rfl (g.qlt q0) (g.qtg q0) (Nat.le_of_ble_eq_true rfl)) (by decide) ml58 pp58 (Nat.le_of_ble_eq_true rfl) rfl (by decide) (by decide) ?_
        refine ev_aload_n rfl ?_
        refine ev_aload_n rfl ?_
        refine g_qgetp g q0 (c := 8) (by decide) (by decide) ft4_8 ?_
        refine ev_iload_n rfl ?_
        refine g_qiald g q0 (c := 8) (by decide) (by decide) (by decide) (by omega) (by show v15434 < m0; omega) rfl (fun v15467 ev15467 lv15467 uv15467 => ?_)
        refine ev_in (d := 1) (a := 0) (b := 0) (cd' := c161_0) (m := 2) (L0 := [(2, 1), (0, v15467)]) (jcall_v (A := [(0, v15467)]) (S' := []) (r := 1) rfl (g.lt ad1) (g.tg ad1) (Nat.le_of_ble_eq_true rfl)) (by decide) ml161 pp161 (Nat.le_of_ble_eq_true rfl) rfl (by decide) (by decide) ?_
        refine ev_iload_n rfl ?_
        refine ev_iflt f161_12 (fun c15468 => ?_) (fun c15468 => ?_)
        · refine ev_lconst ?_
          refine ev_goto f161_22 ?_
          refine ev_ret rfl (by decide) (by decide) ?_
          show jEv _ _ _ _ _ _ _ (_, [(2, (r0 : Int)), (2, 1), (0, v15434)], [(1, 0)], _, _, _)
          refine ev_ret rfl (by decide) (by decide) ?_
          show jEv _ _ _ _ _ _ _ (_, [(2, (r0 : Int)), (2, 1), (0, a2), (0, a3), (0, a4), (0, a5), (0, v15434), (0, v15436), (0, 99), (0, a5), (9, 0), (9, 0), (9, 0)], [(1, 0), (1, 100)], _, _, _)
          refine ev_lmul (r := 0) (by decide) ?_
          refine ev_goto f60_126 ?_
          refine ev_lstore (L' := [(2, (r0 : Int)), (2, 1), (0, a2), (0, a3), (0, a4), (0, a5), (0, v15434), (0, v15436), (0, 99), (0, a5), (1, 0), (9, 0), (9, 0)]) (Nat.le_of_ble_eq_true rfl) rfl ?_
          refine ev_iload rfl ?_
          refine ev_iconst ?_
          refine ev_icmplt f60_149 (fun c15469 => ?_) (fun c15469 => ?_)
          · refine ev_iconst ?_
            exact ev_ret rfl (by decide) (by decide) ⟨_, rfl, by omega, by omega, g, k0⟩
          · refine ev_aload_n rfl ?_
            refine ev_iload rfl ?_
            refine ev_iload rfl ?_
            refine ev_i2l ?_
            refine ev_lload rfl ?_
            refine ev_lmul (r := 0) (by unfold w64; omega) ?_
            refine ev_call (jcall_v (A := [(1, 0), (0, v15434)]) (S' := []) (r := r0) rfl (g.qlt q0) (g.qtg q0) (Nat.le_of_ble_eq_true rfl)) (jOk_le (by decide) (s61 g q0 (by omega) (by omega) (by omega) (by omega))) (by decide) (by decide) (fun w15470 h15470 q15470 => ?_)
            obtain ⟨v15471, rfl, lv15471, uv15471, g15470, kk15470⟩ := q15470
            have k15470 := k0.tr kk15470 (by decide)
            show jEv _ _ _ _ _ _ _ (_, [(2, (r0 : Int)), (2, 1), (0, a2), (0, a3), (0, a4), (0, a5), (0, v15434), (0, v15436), (0, 99), (0, a5), (1, 0), (9, 0), (9, 0)], [(0, v15471)], _, _, _)
            refine ev_ifne f60_151 (fun c15472 => ?_) (fun c15472 => ?_)
            · refine ev_iconst ?_
              refine ev_istore (L' := [(2, (r0 : Int)), (2, 1), (0, a2), (0, a3), (0, a4), (0, a5), (0, v15434), (0, v15436), (0, 99), (0, a5), (1, 0), (9, 0), (0, 1)]) (Nat.le_of_ble_eq_true rfl) rfl ?_
              exact (s60_l q0 la2 ua2 la3 ua3 la4 ua4 la5 ua5 80) _ _ _ _ _ _ _ g15470 k15470 (by omega) (by omega) (by omega) (by omega) (by omega) (by omega) (by omega) (by omega) (by omega) (by omega) (by omega) (by omega) (by omega) (by omega) (by omega) (by omega) (by omega) (by omega) (by omega) (by omega) (by omega) (by omega)
            · refine ev_iconst ?_
              exact ev_ret rfl (by decide) (by decide) ⟨_, rfl, by omega, by omega, g15470, k15470⟩
        · refine ev_iload_n rfl ?_
          refine ev_aload_n rfl ?_
          refine ev_in (d := 0) (a := 0) (b := 0) (cd' := c157_0) (m := 1) (L0 := [(2, 1)]) (jcall_v (A := []) (S' := [(0, v15467)]) (r := 1) rfl (g.lt ad1) (g.tg ad1) (Nat.le_of_ble_eq_true rfl)) (by decide) ml157 pp157 (Nat.le_of_ble_eq_true rfl) rfl (by decide) (by decide) ?_
          refine ev_iconst ?_
          refine ev_iconst ?_
          refine ev_aload_n rfl ?_
          obtain ⟨v15473, ev15473, lv15473, uv15473⟩ := g.rd ad1 (show 0 < 8 by decide) rf1_0
          refine g_getv (r := 1) (v := v15473) g ad1 (by decide) ft10_0 ev15473 ?_
          refine ev_imul (r := (2 * v15473)) (by unfold w32; omega) ?_
          refine g_ishlB (a' := 1) (a := 1) (b := 8) (hi := 256) (by omega) (by omega) (by omega) (by omega) (by decide) (by decide) (fun v15474 ev15474 lv15474 uv15474 => ?_)
          refine ev_ret rfl (by decide) (by decide) ?_
          show jEv _ _ _ _ _ _ _ (_, [(2, 1), (0, v15467)], [(0, v15474), (0, v15467)], _, _, _)
          refine ev_icmplt f161_16 (fun c15475 => ?_) (fun c15475 => ?_)
          · refine ev_aload_n rfl ?_
            refine g_getp (r := 1) (c := 6) g ad1 (by decide) (by decide) rf1_7 ft10_7 ?_
            refine ev_iload_n rfl ?_
            refine g_lald g ad6 rt6 (by omega) (by omega) (fun v15476 ev15476 lv15476 uv15476 => ?_)
            refine ev_ret rfl (by decide) (by decide) ?_
            show jEv _ _ _ _ _ _ _ (_, [(2, (r0 : Int)), (2, 1), (0, v15434)], [(1, v15476)], _, _, _)
            refine ev_ret rfl (by decide) (by decide) ?_
            show jEv _ _ _ _ _ _ _ (_, [(2, (r0 : Int)), (2, 1), (0, a2), (0, a3), (0, a4), (0, a5), (0, v15434), (0, v15436), (0, 99), (0, a5), (9, 0), (9, 0), (9, 0)], [(1, v15476), (1, 100)], _, _, _)
            refine g_lmulG (fun v15477 ev15477 lv15477 uv15477 => ?_)
            refine ev_goto f60_126 ?_
            refine ev_lstore (L' := [(2, (r0 : Int)), (2, 1), (0, a2), (0, a3), (0, a4), (0, a5), (0, v15434), (0, v15436), (0, 99), (0, a5), (1, v15477), (9, 0), (9, 0)]) (Nat.le_of_ble_eq_true rfl) rfl ?_
            refine ev_iload rfl ?_
            refine ev_iconst ?_
            refine ev_icmplt f60_149 (fun c15478 => ?_) (fun c15478 => ?_)
            · refine ev_iconst ?_
              exact ev_ret rfl (by decide) (by decide) ⟨_, rfl, by omega, by omega, g, k0⟩
            · refine ev_aload_n rfl ?_
              refine ev_iload rfl ?_
              refine ev_iload rfl ?_
              refine ev_i2l ?_
              refine ev_lload rfl ?_
              refine g_lmulG (fun v15479 ev15479 lv15479 uv15479 => ?_)
              refine ev_call (jcall_v (A := [(1, v15479), (0, v15434)]) (S' := []) (r := r0) rfl (g.qlt q0) (g.qtg q0) (Nat.le_of_ble_eq_true rfl)) (jOk_le (by decide) (s61 g q0 (by omega) (by omega) (by omega) (by omega))) (by decide) (by decide) (fun w15480 h15480 q15480 => ?_)
              obtain ⟨v15481, rfl, lv15481, uv15481, g15480, kk15480⟩ := q15480
              have k15480 := k0.tr kk15480 (by decide)
              show jEv _ _ _ _ _ _ _ (_, [(2, (r0 : Int)), (2, 1), (0, a2), (0, a3), (0, a4), (0, a5), (0, v15434), (0, v15436), (0, 99), (0, a5), (1, v15477), (9, 0), (9, 0)], [(0, v15481)], _, _, _)
              refine ev_ifne f60_151 (fun c15482 => ?_) (fun c15482 => ?_)
              · refine ev_iconst ?_
                refine ev_istore (L' := [(2, (r0 : Int)), (2, 1), (0, a2), (0, a3), (0, a4), (0, a5), (0, v15434), (0, v15436), (0, 99), (0, a5), (1, v15477), (9, 0), (0, 1)]) (Nat.le_of_ble_eq_true rfl) rfl ?_
                exact (s60_l q0 la2 ua2 la3 ua3 la4 ua4 la5 ua5 80) _ _ _ _ _ _ _ g15480 k15480 (by omega) (by omega) (by omega) (by omega) (by omega) (by omega) (by omega) (by omega) (by omega) (by omega) (by omega) (by omega) (by omega) (by omega) (by omega) (by omega) (by omega) (by omega) (by omega) (by omega) (by omega) (by omega)
              · refine ev_iconst ?_
                exact ev_ret rfl (by decide) (by decide) ⟨_, rfl, by omega, by omega, g15480, k15480⟩
          · refine ev_lconst ?_
            refine ev_goto f161_22 ?_
            refine ev_ret rfl (by decide) (by decide) ?_
            show jEv _ _ _ _ _ _ _ (_, [(2, (r0 : Int)), (2, 1), (0, v15434)], [(1, 0)], _, _, _)
            refine ev_ret rfl (by decide) (by decide) ?_
            show jEv _ _ _ _ _ _ _ (_, [(2, (r0 : Int)), (2, 1), (0, a2), (0, a3), (0, a4), (0, a5), (0, v15434), (0, v15436), (0, 99), (0, a5), (9, 0), (9, 0), (9, 0)], [(1, 0), (1, 100)], _, _, _)
            refine ev_lmul (r := 0) (by decide) ?_
            refine ev_goto f60_126 ?_
            refine ev_lstore (L' := [(2, (r0 : Int)), (2, 1), (0, a2), (0, a3), (0, a4), (0, a5), (0, v15434), (0, v15436), (0, 99), (0, a5), (1, 0), (9, 0), (9, 0)]) (Nat.le_of_ble_eq_true rfl) rfl ?_
            refine ev_iload rfl ?_
            refine ev_iconst ?_
            refine ev_icmplt f60_149 (fun c15483 => ?_) (fun c15483 => ?_)
            · refine ev_iconst ?_
              exact ev_ret rfl (by decide) (by decide) ⟨_, rfl, by omega, by omega, g, k0⟩
            · refine ev_aload_n rfl ?_
              refine ev_iload rfl ?_
              refine ev_iload rfl ?_
              refine ev_i2l ?_
              refine ev_lload rfl ?_
              refine ev_lmul (r := 0) (by unfold w64; omega) ?_
              refine ev_call (jcall_v (A := [(1, 0), (0, v15434)]) (S' := []) (r := r0) rfl (g.qlt q0) (g.qtg q0) (Nat.le_of_ble_eq_true rfl)) (jOk_le (by decide) (s61 g q0 (by omega) (by omega) (by omega) (by omega))) (by decide) (by decide) (fun w15484 h15484 q15484 => ?_)
              obtain ⟨v15485, rfl, lv15485, uv15485, g15484, kk15484⟩ := q15484
              have k15484 := k0.tr kk15484 (by decide)
              show jEv _ _ _ _ _ _ _ (_, [(2, (r0 : Int)), (2, 1), (0, a2), (0, a3), (0, a4), (0, a5), (0, v15434), (0, v15436), (0, 99), (0, a5), (1, 0), (9, 0), (9, 0)], [(0, v15485)], _, _, _)
              refine ev_ifne f60_151 (fun c15486 => ?_) (fun c15486 => ?_)
              · refine ev_iconst ?_
                refine ev_istore (L' := [(2, (r0 : Int)), (2, 1), (0, a2), (0, a3), (0, a4), (0, a5), (0, v15434), (0, v15436), (0, 99), (0, a5), (1, 0), (9, 0), (0, 1)]) (Nat.le_of_ble_eq_true rfl) rfl ?_
                exact (s60_l q0 la2 ua2 la3 ua3 la4 ua4 la5 ua5 80) _ _ _ _ _ _ _ g15484 k15484 (by omega) (by omega) (by omega) (by omega) (by omega) (by omega) (by omega) (by omega) (by omega) (by omega) (by omega) (by omega) (by omega) (by omega) (by omega) (by omega) (by omega) (by omega) (by omega) (by omega) (by omega) (by omega)
              · refine ev_iconst ?_
                exact ev_ret rfl (by decide) (by decide) ⟨_, rfl, by omega, by omega, g15484, k15484⟩
    · refine ev_iload rfl ?_
      refine ev_iload rfl ?_
      refine g_isubG (fun v15487 ev15487 lv15487 uv15487 => ?_)
      refine ev_goto f60_72 ?_
      refine ev_in (d := 2) (a := 0) (b := 0) (cd' := c381_0) (m := 2) (L0 := [(0, a5), (0, v15487)]) (jcall_s (A := [(0, v15487), (0, a5)]) (S' := []) (by decide) rfl (Nat.le_of_ble_eq_true rfl)) (by decide) ml381 pp381 (Nat.le_of_ble_eq_true rfl) rfl (by decide) (by decide) ?_
      refine ev_iload_n rfl ?_
      refine ev_iload_n rfl ?_
      refine ev_icmpgt f381_9 (fun c15488 => ?_) (fun c15488 => ?_)
      · refine ev_iload_n rfl ?_
        refine ev_ret rfl (by decide) (by decide) ?_
        show jEv _ _ _ _ _ _ _ (_, [(2, (r0 : Int)), (2, 1), (0, a2), (0, a3), (0, a4), (0, a5), (0, v15434), (0, v15436), (0, 99), (9, 0), (9, 0), (9, 0), (9, 0)], [(0, v15487)], _, _, _)
        refine ev_istore (L' := [(2, (r0 : Int)), (2, 1), (0, a2), (0, a3), (0, a4), (0, a5), (0, v15434), (0, v15436), (0, 99), (0, v15487), (9, 0), (9, 0), (9, 0)]) (Nat.le_of_ble_eq_true rfl) rfl ?_
        refine ev_iload_n rfl ?_
        refine ev_iconst ?_
        refine ev_icmpne f60_86 (fun c15489 => ?_) (fun c15489 => absurd c15489 (by omega))
        refine ev_iconst ?_
        refine ev_iload rfl ?_
        refine ev_iconst ?_
        refine ev_icmpne f60_97 (fun c15490 => absurd c15490 (by omega)) (fun c15490 => ?_)
        refine ev_iconst ?_
        refine ev_goto f60_98 ?_
        refine ev_icmpne f60_115 (fun c15491 => ?_) (fun c15491 => absurd c15491 (by omega))
        refine ev_ldc2_w ?_
        refine ev_aload_n rfl ?_
        refine ev_aload_n rfl ?_
        refine ev_iload rfl ?_
        refine ev_in (d := 2) (a := 0) (b := 0) (cd' := c58_0) (m := 3) (L0 := [(2, (r0 : Int)), (2, 1), (0, v15434)]) (jcall_v (A := [(0, v15434), (2, 1)]) (S' := [(1, (-100))]) (r := r0) rfl (g.qlt q0) (g.qtg q0) (Nat.le_of_ble_eq_true rfl)) (by decide) ml58 pp58 (Nat.le_of_ble_eq_true rfl) rfl (by decide) (by decide) ?_
        refine ev_aload_n rfl ?_
        refine ev_aload_n rfl ?_
        refine g_qgetp g q0 (c := 8) (by decide) (by decide) ft4_8 ?_
        refine ev_iload_n rfl ?_
        refine g_qiald g q0 (c := 8) (by decide) (by decide) (by decide) (by omega) (by show v15434 < m0; omega) rfl (fun v15492 ev15492 lv15492 uv15492 => ?_)
        refine ev_in (d := 1) (a := 0) (b := 0) (cd' := c161_0) (m := 2) (L0 := [(2, 1), (0, v15492)]) (jcall_v (A := [(0, v15492)]) (S' := []) (r := 1) rfl (g.lt ad1) (g.tg ad1) (Nat.le_of_ble_eq_true rfl)) (by decide) ml161 pp161 (Nat.le_of_ble_eq_true rfl) rfl (by decide) (by decide) ?_
        refine ev_iload_n rfl ?_
        refine ev_iflt f161_12 (fun c15493 => ?_) (fun c15493 => ?_)
        · refine ev_lconst ?_
          refine ev_goto f161_22 ?_
          refine ev_ret rfl (by decide) (by decide) ?_
          show jEv _ _ _ _ _ _ _ (_, [(2, (r0 : Int)), (2, 1), (0, v15434)], [(1, 0)], _, _, _)
          refine ev_ret rfl (by decide) (by decide) ?_
          show jEv _ _ _ _ _ _ _ (_, [(2, (r0 : Int)), (2, 1), (0, a2), (0, a3), (0, a4), (0, a5), (0, v15434), (0, v15436), (0, 99), (0, v15487), (9, 0), (9, 0), (9, 0)], [(1, 0), (1, (-100))], _, _, _)
          refine ev_lmul (r := 0) (by decide) ?_
          refine ev_lstore (L' := [(2, (r0 : Int)), (2, 1), (0, a2), (0, a3), (0, a4), (0, a5), (0, v15434), (0, v15436), (0, 99), (0, v15487), (1, 0), (9, 0), (9, 0)]) (Nat.le_of_ble_eq_true rfl) rfl ?_
          refine ev_iload rfl ?_
          refine ev_iconst ?_
          refine ev_icmplt f60_149 (fun c15494 => ?_) (fun c15494 => ?_)
          · refine ev_iconst ?_
            exact ev_ret rfl (by decide) (by decide) ⟨_, rfl, by omega, by omega, g, k0⟩
          · refine ev_aload_n rfl ?_
            refine ev_iload rfl ?_
            refine ev_iload rfl ?_
            refine ev_i2l ?_
            refine ev_lload rfl ?_
            refine ev_lmul (r := 0) (by unfold w64; omega) ?_
            refine ev_call (jcall_v (A := [(1, 0), (0, v15434)]) (S' := []) (r := r0) rfl (g.qlt q0) (g.qtg q0) (Nat.le_of_ble_eq_true rfl)) (jOk_le (by decide) (s61 g q0 (by omega) (by omega) (by omega) (by omega))) (by decide) (by decide) (fun w15495 h15495 q15495 => ?_)
            obtain ⟨v15496, rfl, lv15496, uv15496, g15495, kk15495⟩ := q15495
            have k15495 := k0.tr kk15495 (by decide)
            show jEv _ _ _ _ _ _ _ (_, [(2, (r0 : Int)), (2, 1), (0, a2), (0, a3), (0, a4), (0, a5), (0, v15434), (0, v15436), (0, 99), (0, v15487), (1, 0), (9, 0), (9, 0)], [(0, v15496)], _, _, _)
            refine ev_ifne f60_151 (fun c15497 => ?_) (fun c15497 => ?_)
            · refine ev_iconst ?_
              refine ev_istore (L' := [(2, (r0 : Int)), (2, 1), (0, a2), (0, a3), (0, a4), (0, a5), (0, v15434), (0, v15436), (0, 99), (0, v15487), (1, 0), (9, 0), (0, 1)]) (Nat.le_of_ble_eq_true rfl) rfl ?_
              exact (s60_l q0 la2 ua2 la3 ua3 la4 ua4 la5 ua5 80) _ _ _ _ _ _ _ g15495 k15495 (by omega) (by omega) (by omega) (by omega) (by omega) (by omega) (by omega) (by omega) (by omega) (by omega) (by omega) (by omega) (by omega) (by omega) (by omega) (by omega) (by omega) (by omega) (by omega) (by omega) (by omega) (by omega)
            · refine ev_iconst ?_
              exact ev_ret rfl (by decide) (by decide) ⟨_, rfl, by omega, by omega, g15495, k15495⟩
        · refine ev_iload_n rfl ?_
          refine ev_aload_n rfl ?_
          refine ev_in (d := 0) (a := 0) (b := 0) (cd' := c157_0) (m := 1) (L0 := [(2, 1)]) (jcall_v (A := []) (S' := [(0, v15492)]) (r := 1) rfl (g.lt ad1) (g.tg ad1) (Nat.le_of_ble_eq_true rfl)) (by decide) ml157 pp157 (Nat.le_of_ble_eq_true rfl) rfl (by decide) (by decide) ?_
          refine ev_iconst ?_
          refine ev_iconst ?_
          refine ev_aload_n rfl ?_
          obtain ⟨v15498, ev15498, lv15498, uv15498⟩ := g.rd ad1 (show 0 < 8 by decide) rf1_0
          refine g_getv (r := 1) (v := v15498) g ad1 (by decide) ft10_0 ev15498 ?_
          refine ev_imul (r := (2 * v15498)) (by unfold w32; omega) ?_
          refine g_ishlB (a' := 1) (a := 1) (b := 8) (hi := 256) (by omega) (by omega) (by omega) (by omega) (by decide) (by decide) (fun v15499 ev15499 lv15499 uv15499 => ?_)
          refine ev_ret rfl (by decide) (by decide) ?_
          show jEv _ _ _ _ _ _ _ (_, [(2, 1), (0, v15492)], [(0, v15499), (0, v15492)], _, _, _)
          refine ev_icmplt f161_16 (fun c15500 => ?_) (fun c15500 => ?_)
          · refine ev_aload_n rfl ?_
            refine g_getp (r := 1) (c := 6) g ad1 (by decide) (by decide) rf1_7 ft10_7 ?_
            refine ev_iload_n rfl ?_
            refine g_lald g ad6 rt6 (by omega) (by omega) (fun v15501 ev15501 lv15501 uv15501 => ?_)
            refine ev_ret rfl (by decide) (by decide) ?_
            show jEv _ _ _ _ _ _ _ (_, [(2, (r0 : Int)), (2, 1), (0, v15434)], [(1, v15501)], _, _, _)
            refine ev_ret rfl (by decide) (by decide) ?_
            show jEv _ _ _ _ _ _ _ (_, [(2, (r0 : Int)), (2, 1), (0, a2), (0, a3), (0, a4), (0, a5), (0, v15434), (0, v15436), (0, 99), (0, v15487), (9, 0), (9, 0), (9, 0)], [(1, v15501), (1, (-100))], _, _, _)
            refine g_lmulG (fun v15502 ev15502 lv15502 uv15502 => ?_)
            refine ev_lstore (L' := [(2, (r0 : Int)), (2, 1), (0, a2), (0, a3), (0, a4), (0, a5), (0, v15434), (0, v15436), (0, 99), (0, v15487), (1, v15502), (9, 0), (9, 0)]) (Nat.le_of_ble_eq_true rfl) rfl ?_
            refine ev_iload rfl ?_
            refine ev_iconst ?_
            refine ev_icmplt f60_149 (fun c15503 => ?_) (fun c15503 => ?_)
            · refine ev_iconst ?_
              exact ev_ret rfl (by decide) (by decide) ⟨_, rfl, by omega, by omega, g, k0⟩
            · refine ev_aload_n rfl ?_
              refine ev_iload rfl ?_
              refine ev_iload rfl ?_
              refine ev_i2l ?_
              refine ev_lload rfl ?_
              refine g_lmulG (fun v15504 ev15504 lv15504 uv15504 => ?_)
              refine ev_call (jcall_v (A := [(1, v15504), (0, v15434)]) (S' := []) (r := r0) rfl (g.qlt q0) (g.qtg q0) (Nat.le_of_ble_eq_true rfl)) (jOk_le (by decide) (s61 g q0 (by omega) (by omega) (by omega) (by omega))) (by decide) (by decide) (fun w15505 h15505 q15505 => ?_)
              obtain ⟨v15506, rfl, lv15506, uv15506, g15505, kk15505⟩ := q15505
              have k15505 := k0.tr kk15505 (by decide)
              show jEv _ _ _ _ _ _ _ (_, [(2, (r0 : Int)), (2, 1), (0, a2), (0, a3), (0, a4), (0, a5), (0, v15434), (0, v15436), (0, 99), (0, v15487), (1, v15502), (9, 0), (9, 0)], [(0, v15506)], _, _, _)
              refine ev_ifne f60_151 (fun c15507 => ?_) (fun c15507 => ?_)
              · refine ev_iconst ?_
                refine ev_istore (L' := [(2, (r0 : Int)), (2, 1), (0, a2), (0, a3), (0, a4), (0, a5), (0, v15434), (0, v15436), (0, 99), (0, v15487), (1, v15502), (9, 0), (0, 1)]) (Nat.le_of_ble_eq_true rfl) rfl ?_
                exact (s60_l q0 la2 ua2 la3 ua3 la4 ua4 la5 ua5 80) _ _ _ _ _ _ _ g15505 k15505 (by omega) (by omega) (by omega) (by omega) (by omega) (by omega) (by omega) (by omega) (by omega) (by omega) (by omega) (by omega) (by omega) (by omega) (by omega) (by omega) (by omega) (by omega) (by omega) (by omega) (by omega) (by omega)
              · refine ev_iconst ?_
                exact ev_ret rfl (by decide) (by decide) ⟨_, rfl, by omega, by omega, g15505, k15505⟩
          · refine ev_lconst ?_
            refine ev_goto f161_22 ?_
            refine ev_ret rfl (by decide) (by decide) ?_
            show jEv _ _ _ _ _ _ _ (_, [(2, (r0 : Int)), (2, 1), (0, v15434)], [(1, 0)], _, _, _)
            refine ev_ret rfl (by decide) (by decide) ?_
            show jEv _ _ _ _ _ _ _ (_, [(2, (r0 : Int)), (2, 1), (0, a2), (0, a3), (0, a4), (0, a5), (0, v15434), (0, v15436), (0, 99), (0, v15487), (9, 0), (9, 0), (9, 0)], [(1, 0), (1, (-100))], _, _, _)
            refine ev_lmul (r := 0) (by decide) ?_
            refine ev_lstore (L' := [(2, (r0 : Int)), (2, 1), (0, a2), (0, a3), (0, a4), (0, a5), (0, v15434), (0, v15436), (0, 99), (0, v15487), (1, 0), (9, 0), (9, 0)]) (Nat.le_of_ble_eq_true rfl) rfl ?_
            refine ev_iload rfl ?_
            refine ev_iconst ?_
            refine ev_icmplt f60_149 (fun c15508 => ?_) (fun c15508 => ?_)
            · refine ev_iconst ?_
              exact ev_ret rfl (by decide) (by decide) ⟨_, rfl, by omega, by omega, g, k0⟩
            · refine ev_aload_n rfl ?_
              refine ev_iload rfl ?_
              refine ev_iload rfl ?_
              refine ev_i2l ?_
              refine ev_lload rfl ?_
              refine ev_lmul (r := 0) (by unfold w64; omega) ?_
              refine ev_call (jcall_v (A := [(1, 0), (0, v15434)]) (S' := []) (r := r0) rfl (g.qlt q0) (g.qtg q0) (Nat.le_of_ble_eq_true rfl)) (jOk_le (by decide) (s61 g q0 (by omega) (by omega) (by omega) (by omega))) (by decide) (by decide) (fun w15509 h15509 q15509 => ?_)
              obtain ⟨v15510, rfl, lv15510, uv15510, g15509, kk15509⟩ := q15509
              have k15509 := k0.tr kk15509 (by decide)
              show jEv _ _ _ _ _ _ _ (_, [(2, (r0 : Int)), (2, 1), (0, a2), (0, a3), (0, a4), (0, a5), (0, v15434), (0, v15436), (0, 99), (0, v15487), (1, 0), (9, 0), (9, 0)], [(0, v15510)], _, _, _)
              refine ev_ifne f60_151 (fun c15511 => ?_) (fun c15511 => ?_)
              · refine ev_iconst ?_
                refine ev_istore (L' := [(2, (r0 : Int)), (2, 1), (0, a2), (0, a3), (0, a4), (0, a5), (0, v15434), (0, v15436), (0, 99), (0, v15487), (1, 0), (9, 0), (0, 1)]) (Nat.le_of_ble_eq_true rfl) rfl ?_
                exact (s60_l q0 la2 ua2 la3 ua3 la4 ua4 la5 ua5 80) _ _ _ _ _ _ _ g15509 k15509 (by omega) (by omega) (by omega) (by omega) (by omega) (by omega) (by omega) (by omega) (by omega) (by omega) (by omega) (by omega) (by omega) (by omega) (by omega) (by omega) (by omega) (by omega) (by omega) (by omega) (by omega) (by omega)
              · refine ev_iconst ?_
                exact ev_ret rfl (by decide) (by decide) ⟨_, rfl, by omega, by omega, g15509, k15509⟩
      · refine ev_iload_n rfl ?_
        refine ev_goto f381_10 ?_
        refine ev_ret rfl (by decide) (by decide) ?_
        show jEv _ _ _ _ _ _ _ (_, [(2, (r0 : Int)), (2, 1), (0, a2), (0, a3), (0, a4), (0, a5), (0, v15434), (0, v15436), (0, 99), (9, 0), (9, 0), (9, 0), (9, 0)], [(0, a5)], _, _, _)
        refine ev_istore (L' := [(2, (r0 : Int)), (2, 1), (0, a2), (0, a3), (0, a4), (0, a5), (0, v15434), (0, v15436), (0, 99), (0, a5), (9, 0), (9, 0), (9, 0)]) (Nat.le_of_ble_eq_true rfl) rfl ?_
        refine ev_iload_n rfl ?_
        refine ev_iconst ?_
        refine ev_icmpne f60_86 (fun c15512 => ?_) (fun c15512 => absurd c15512 (by omega))
        refine ev_iconst ?_
        refine ev_iload rfl ?_
        refine ev_iconst ?_
        refine ev_icmpne f60_97 (fun c15513 => absurd c15513 (by omega)) (fun c15513 => ?_)
        refine ev_iconst ?_
        refine ev_goto f60_98 ?_
        refine ev_icmpne f60_115 (fun c15514 => ?_) (fun c15514 => absurd c15514 (by omega))
        refine ev_ldc2_w ?_
        refine ev_aload_n rfl ?_
        refine ev_aload_n rfl ?_
        refine ev_iload rfl ?_
        refine ev_in (d := 2) (a := 0) (b := 0) (cd' := c58_0) (m := 3) (L0 := [(2, (r0 : Int)), (2, 1), (0, v15434)]) (jcall_v (A := [(0, v15434), (2, 1)]) (S' := [(1, (-100))]) (r := r0) rfl (g.qlt q0) (g.qtg q0) (Nat.le_of_ble_eq_true rfl)) (by decide) ml58 pp58 (Nat.le_of_ble_eq_true rfl) rfl (by decide) (by decide) ?_
        refine ev_aload_n rfl ?_
        refine ev_aload_n rfl ?_
        refine g_qgetp g q0 (c := 8) (by decide) (by decide) ft4_8 ?_
        refine ev_iload_n rfl ?_
        refine g_qiald g q0 (c := 8) (by decide) (by decide) (by decide) (by omega) (by show v15434 < m0; omega) rfl (fun v15515 ev15515 lv15515 uv15515 => ?_)
        refine ev_in (d := 1) (a := 0) (b := 0) (cd' := c161_0) (m := 2) (L0 := [(2, 1), (0, v15515)]) (jcall_v (A := [(0, v15515)]) (S' := []) (r := 1) rfl (g.lt ad1) (g.tg ad1) (Nat.le_of_ble_eq_true rfl)) (by decide) ml161 pp161 (Nat.le_of_ble_eq_true rfl) rfl (by decide) (by decide) ?_
        refine ev_iload_n rfl ?_
        refine ev_iflt f161_12 (fun c15516 => ?_) (fun c15516 => ?_)
        · refine ev_lconst ?_
          refine ev_goto f161_22 ?_
          refine ev_ret rfl (by decide) (by decide) ?_
          show jEv _ _ _ _ _ _ _ (_, [(2, (r0 : Int)), (2, 1), (0, v15434)], [(1, 0)], _, _, _)
          refine ev_ret rfl (by decide) (by decide) ?_
          show jEv _ _ _ _ _ _ _ (_, [(2, (r0 : Int)), (2, 1), (0, a2), (0, a3), (0, a4), (0, a5), (0, v15434), (0, v15436), (0, 99), (0, a5), (9, 0), (9, 0), (9, 0)], [(1, 0), (1, (-100))], _, _, _)
          refine ev_lmul (r := 0) (by decide) ?_
          refine ev_lstore (L' := [(2, (r0 : Int)), (2, 1), (0, a2), (0, a3), (0, a4), (0, a5), (0, v15434), (0, v15436), (0, 99), (0, a5), (1, 0), (9, 0), (9, 0)]) (Nat.le_of_ble_eq_true rfl) rfl ?_
          refine ev_iload rfl ?_
          refine ev_iconst ?_
          refine ev_icmplt f60_149 (fun c15517 => ?_) (fun c15517 => ?_)
          · refine ev_iconst ?_
            exact ev_ret rfl (by decide) (by decide) ⟨_, rfl, by omega, by omega, g, k0⟩
          · refine ev_aload_n rfl ?_
            refine ev_iload rfl ?_
            refine ev_iload rfl ?_
            refine ev_i2l ?_
            refine ev_lload rfl ?_
            refine ev_lmul (r := 0) (by unfold w64; omega) ?_
            refine ev_call (jcall_v (A := [(1, 0), (0, v15434)]) (S' := []) (r := r0) rfl (g.qlt q0) (g.qtg q0) (Nat.le_of_ble_eq_true rfl)) (jOk_le (by decide) (s61 g q0 (by omega) (by omega) (by omega) (by omega))) (by decide) (by decide) (fun w15518 h15518 q15518 => ?_)
            obtain ⟨v15519, rfl, lv15519, uv15519, g15518, kk15518⟩ := q15518
            have k15518 := k0.tr kk15518 (by decide)
            show jEv _ _ _ _ _ _ _ (_, [(2, (r0 : Int)), (2, 1), (0, a2), (0, a3), (0, a4), (0, a5), (0, v15434), (0, v15436), (0, 99), (0, a5), (1, 0), (9, 0), (9, 0)], [(0, v15519)], _, _, _)
            refine ev_ifne f60_151 (fun c15520 => ?_) (fun c15520 => ?_)
            · refine ev_iconst ?_
              refine ev_istore (L' := [(2, (r0 : Int)), (2, 1), (0, a2), (0, a3), (0, a4), (0, a5), (0, v15434), (0, v15436), (0, 99), (0, a5), (1, 0), (9, 0), (0, 1)]) (Nat.le_of_ble_eq_true rfl) rfl ?_
              exact (s60_l q0 la2 ua2 la3 ua3 la4 ua4 la5 ua5 80) _ _ _ _ _ _ _ g15518 k15518 (by omega) (by omega) (by omega) (by omega) (by omega) (by omega) (by omega) (by omega) (by omega) (by omega) (by omega) (by omega) (by omega) (by omega) (by omega) (by omega) (by omega) (by omega) (by omega) (by omega) (by omega) (by omega)
            · refine ev_iconst ?_
              exact ev_ret rfl (by decide) (by decide) ⟨_, rfl, by omega, by omega, g15518, k15518⟩
        · refine ev_iload_n rfl ?_
          refine ev_aload_n rfl ?_
          refine ev_in (d := 0) (a := 0) (b := 0) (cd' := c157_0) (m := 1) (L0 := [(2, 1)]) (jcall_v (A := []) (S' := [(0, v15515)]) (r := 1) rfl (g.lt ad1) (g.tg ad1) (Nat.le_of_ble_eq_true rfl)) (by decide) ml157 pp157 (Nat.le_of_ble_eq_true rfl) rfl (by decide) (by decide) ?_
          refine ev_iconst ?_
          refine ev_iconst ?_
          refine ev_aload_n rfl ?_
          obtain ⟨v15521, ev15521, lv15521, uv15521⟩ := g.rd ad1 (show 0 < 8 by decide) rf1_0
          refine g_getv (r := 1) (v := v15521) g ad1 (by decide) ft10_0 ev15521 ?_
          refine ev_imul (r := (2 * v15521)) (by unfold w32; omega) ?_
          refine g_ishlB (a' := 1) (a := 1) (b := 8) (hi := 256) (by omega) (by omega) (by omega) (by omega) (by decide) (by decide) (fun v15522 ev15522 lv15522 uv15522 => ?_)
          refine ev_ret rfl (by decide) (by decide) ?_
          show jEv _ _ _ _ _ _ _ (_, [(2, 1), (0, v15515)], [(0, v15522), (0, v15515)], _, _, _)
          refine ev_icmplt f161_16 (fun c15523 => ?_) (fun c15523 => ?_)
          · refine ev_aload_n rfl ?_
            refine g_getp (r := 1) (c := 6) g ad1 (by decide) (by decide) rf1_7 ft10_7 ?_
            refine ev_iload_n rfl ?_
            refine g_lald g ad6 rt6 (by omega) (by omega) (fun v15524 ev15524 lv15524 uv15524 => ?_)
            refine ev_ret rfl (by decide) (by decide) ?_
            show jEv _ _ _ _ _ _ _ (_, [(2, (r0 : Int)), (2, 1), (0, v15434)], [(1, v15524)], _, _, _)
            refine ev_ret rfl (by decide) (by decide) ?_
            show jEv _ _ _ _ _ _ _ (_, [(2, (r0 : Int)), (2, 1), (0, a2), (0, a3), (0, a4), (0, a5), (0, v15434), (0, v15436), (0, 99), (0, a5), (9, 0), (9, 0), (9, 0)], [(1, v15524), (1, (-100))], _, _, _)
            refine g_lmulG (fun v15525 ev15525 lv15525 uv15525 => ?_)
            refine ev_lstore (L' := [(2, (r0 : Int)), (2, 1), (0, a2), (0, a3), (0, a4), (0, a5), (0, v15434), (0, v15436), (0, 99), (0, a5), (1, v15525), (9, 0), (9, 0)]) (Nat.le_of_ble_eq_true rfl) rfl ?_
            refine ev_iload rfl ?_
            refine ev_iconst ?_
            refine ev_icmplt f60_149 (fun c15526 => ?_) (fun c15526 => ?_)
            · refine ev_iconst ?_
              exact ev_ret rfl (by decide) (by decide) ⟨_, rfl, by omega, by omega, g, k0⟩
            · refine ev_aload_n rfl ?_
              refine ev_iload rfl ?_
              refine ev_iload rfl ?_
              refine ev_i2l ?_
              refine ev_lload rfl ?_
              refine g_lmulG (fun v15527 ev15527 lv15527 uv15527 => ?_)
              refine ev_call (jcall_v (A := [(1, v15527), (0, v15434)]) (S' := []) (r := r0) rfl (g.qlt q0) (g.qtg q0) (Nat.le_of_ble_eq_true rfl)) (jOk_le (by decide) (s61 g q0 (by omega) (by omega) (by omega) (by omega))) (by decide) (by decide) (fun w15528 h15528 q15528 => ?_)
              obtain ⟨v15529, rfl, lv15529, uv15529, g15528, kk15528⟩ := q15528
              have k15528 := k0.tr kk15528 (by decide)
              show jEv _ _ _ _ _ _ _ (_, [(2, (r0 : Int)), (2, 1), (0, a2), (0, a3), (0, a4), (0, a5), (0, v15434), (0, v15436), (0, 99), (0, a5), (1, v15525), (9, 0), (9, 0)], [(0, v15529)], _, _, _)
              refine ev_ifne f60_151 (fun c15530 => ?_) (fun c15530 => ?_)
              · refine ev_iconst ?_
                refine ev_istore (L' := [(2, (r0 : Int)), (2, 1), (0, a2), (0, a3), (0, a4), (0, a5), (0, v15434), (0, v15436), (0, 99), (0, a5), (1, v15525), (9, 0), (0, 1)]) (Nat.le_of_ble_eq_true rfl) rfl ?_
                exact (s60_l q0 la2 ua2 la3 ua3 la4 ua4 la5 ua5 80) _ _ _ _ _ _ _ g15528 k15528 (by omega) (by omega) (by omega) (by omega) (by omega) (by omega) (by omega) (by omega) (by omega) (by omega) (by omega) (by omega) (by omega) (by omega) (by omega) (by omega) (by omega) (by omega) (by omega) (by omega) (by omega) (by omega)
              · refine ev_iconst ?_
                exact ev_ret rfl (by decide) (by decide) ⟨_, rfl, by omega, by omega, g15528, k15528⟩
          · refine ev_lconst ?_
            refine ev_goto f161_22 ?_
            refine ev_ret rfl (by decide) (by decide) ?_
            show jEv _ _ _ _ _ _ _ (_, [(2, (r0 : Int)), (2, 1), (0, v15434)], [(1, 0)], _, _, _)
            refine ev_ret rfl (by decide) (by decide) ?_
            show jEv _ _ _ _ _ _ _ (_, [(2, (r0 : Int)), (2, 1), (0, a2), (0, a3), (0, a4), (0, a5), (0, v15434), (0, v15436), (0, 99), (0, a5), (9, 0), (9, 0), (9, 0)], [(1, 0), (1, (-100))], _, _, _)
            refine ev_lmul (r := 0) (by decide) ?_
            refine ev_lstore (L' := [(2, (r0 : Int)), (2, 1), (0, a2), (0, a3), (0, a4), (0, a5), (0, v15434), (0, v15436), (0, 99), (0, a5), (1, 0), (9, 0), (9, 0)]) (Nat.le_of_ble_eq_true rfl) rfl ?_
            refine ev_iload rfl ?_
            refine ev_iconst ?_
            refine ev_icmplt f60_149 (fun c15531 => ?_) (fun c15531 => ?_)
            · refine ev_iconst ?_
              exact ev_ret rfl (by decide) (by decide) ⟨_, rfl, by omega, by omega, g, k0⟩
            · refine ev_aload_n rfl ?_
              refine ev_iload rfl ?_
              refine ev_iload rfl ?_
              refine ev_i2l ?_
              refine ev_lload rfl ?_
              refine ev_lmul (r := 0) (by unfold w64; omega) ?_
              refine ev_call (jcall_v (A := [(1, 0), (0, v15434)]) (S' := []) (r := r0) rfl (g.qlt q0) (g.qtg q0) (Nat.le_of_ble_eq_true rfl)) (jOk_le (by decide) (s61 g q0 (by omega) (by omega) (by omega) (by omega))) (by decide) (by decide) (fun w15532 h15532 q15532 => ?_)
              obtain ⟨v15533, rfl, lv15533, uv15533, g15532, kk15532⟩ := q15532
              have k15532 := k0.tr kk15532 (by decide)
              show jEv _ _ _ _ _ _ _ (_, [(2, (r0 : Int)), (2, 1), (0, a2), (0, a3), (0, a4), (0, a5), (0, v15434), (0, v15436), (0, 99), (0, a5), (1, 0), (9, 0), (9, 0)], [(0, v15533)], _, _, _)
              refine ev_ifne f60_151 (fun c15534 => ?_) (fun c15534 => ?_)
              · refine ev_iconst ?_
                refine ev_istore (L' := [(2, (r0 : Int)), (2, 1), (0, a2), (0, a3), (0, a4), (0, a5), (0, v15434), (0, v15436), (0, 99), (0, a5), (1, 0), (9, 0), (0, 1)]) (Nat.le_of_ble_eq_true rfl) rfl ?_
                exact (s60_l q0 la2 ua2 la3 ua3 la4 ua4 la5 ua5 80) _ _ _ _ _ _ _ g15532 k15532 (by omega) (by omega) (by omega) (by omega) (by omega) (by omega) (by omega) (by omega) (by omega) (by omega) (by omega) (by omega) (by omega) (by omega) (by omega) (by omega) (by omega) (by omega) (by omega) (by omega) (by omega) (by omega)
              · refine ev_iconst ?_
                exact ev_ret rfl (by decide) (by decide) ⟨_, rfl, by omega, by omega, g15532, k15532⟩
  · refine ev_iload_n rfl ?_
    refine ev_goto f60_15 ?_
    refine ev_istore (L' := [(2, (r0 : Int)), (2, 1), (0, a2), (0, a3), (0, a4), (0, a5), (0, a2), (9, 0), (9, 0), (9, 0), (9, 0), (9, 0), (9, 0)]) (Nat.le_of_ble_eq_true rfl) rfl ?_
    refine ev_aload_n rfl ?_
    refine ev_iload_n rfl ?_
    refine ev_iload_n rfl ?_
    refine ev_in (d := 2) (a := 0) (b := 0) (cd' := c34_0) (m := 3) (L0 := [(2, (r0 : Int)), (0, a2), (0, a3)]) (jcall_v (A := [(0, a3), (0, a2)]) (S' := []) (r := r0) rfl (g.qlt q0) (g.qtg q0) (Nat.le_of_ble_eq_true rfl)) (by decide) ml34 pp34 (Nat.le_of_ble_eq_true rfl) rfl (by decide) (by decide) ?_
    refine ev_iload_n rfl ?_
    refine ev_iconst ?_
    refine ev_icmpne f34_14 (fun c15535 => absurd c15535 (by omega)) (fun c15535 => ?_)
    refine ev_aload_n rfl ?_
    refine g_qgetp g q0 (c := 3) (by decide) (by decide) ft4_3 ?_
    refine ev_iload_n rfl ?_
    refine g_qiald g q0 (c := 3) (by decide) (by decide) (by decide) (by omega) (by show a2 < m0; omega) rfl (fun v15536 ev15536 lv15536 uv15536 => ?_)
    refine ev_goto f34_20 ?_
    refine ev_ret rfl (by decide) (by decide) ?_
    show jEv _ _ _ _ _ _ _ (_, [(2, (r0 : Int)), (2, 1), (0, a2), (0, a3), (0, a4), (0, a5), (0, a2), (9, 0), (9, 0), (9, 0), (9, 0), (9, 0), (9, 0)], [(0, v15536)], _, _, _)
    refine ev_istore (L' := [(2, (r0 : Int)), (2, 1), (0, a2), (0, a3), (0, a4), (0, a5), (0, a2), (0, v15536), (9, 0), (9, 0), (9, 0), (9, 0), (9, 0)]) (Nat.le_of_ble_eq_true rfl) rfl ?_
    refine ev_iload_n rfl ?_
    refine ev_iconst ?_
    refine ev_icmpne f60_36 (fun c15537 => absurd c15537 (by omega)) (fun c15537 => ?_)
    refine ev_sipush ?_
    refine ev_goto f60_38 ?_
    refine ev_istore (L' := [(2, (r0 : Int)), (2, 1), (0, a2), (0, a3), (0, a4), (0, a5), (0, a2), (0, v15536), (0, 999), (9, 0), (9, 0), (9, 0), (9, 0)]) (Nat.le_of_ble_eq_true rfl) rfl ?_
    refine ev_iload rfl ?_
    refine ev_iload rfl ?_
    refine ev_iconst ?_
    refine ev_icmpne f60_56 (fun c15538 => ?_) (fun c15538 => ?_)
    · refine ev_iload_n rfl ?_
      refine ev_iconst ?_
      refine ev_icmpne f60_70 (fun c15539 => absurd c15539 (by omega)) (fun c15539 => ?_)
      refine ev_iload rfl ?_
      refine ev_sipush ?_
      refine g_iaddG (fun v15540 ev15540 lv15540 uv15540 => ?_)
      refine ev_goto f60_72 ?_
      refine ev_in (d := 2) (a := 0) (b := 0) (cd' := c381_0) (m := 2) (L0 := [(0, a5), (0, v15540)]) (jcall_s (A := [(0, v15540), (0, a5)]) (S' := []) (by decide) rfl (Nat.le_of_ble_eq_true rfl)) (by decide) ml381 pp381 (Nat.le_of_ble_eq_true rfl) rfl (by decide) (by decide) ?_
      refine ev_iload_n rfl ?_
      refine ev_iload_n rfl ?_
      refine ev_icmpgt f381_9 (fun c15541 => ?_) (fun c15541 => ?_)
      · refine ev_iload_n rfl ?_
        refine ev_ret rfl (by decide) (by decide) ?_
        show jEv _ _ _ _ _ _ _ (_, [(2, (r0 : Int)), (2, 1), (0, a2), (0, a3), (0, a4), (0, a5), (0, a2), (0, v15536), (0, 999), (9, 0), (9, 0), (9, 0), (9, 0)], [(0, v15540)], _, _, _)
        refine ev_istore (L' := [(2, (r0 : Int)), (2, 1), (0, a2), (0, a3), (0, a4), (0, a5), (0, a2), (0, v15536), (0, 999), (0, v15540), (9, 0), (9, 0), (9, 0)]) (Nat.le_of_ble_eq_true rfl) rfl ?_
        refine ev_iload_n rfl ?_
        refine ev_iconst ?_
        refine ev_icmpne f60_86 (fun c15542 => absurd c15542 (by omega)) (fun c15542 => ?_)
        refine ev_iconst ?_
        refine ev_goto f60_87 ?_
        refine ev_iload rfl ?_
        refine ev_iconst ?_
        refine ev_icmpne f60_97 (fun c15543 => ?_) (fun c15543 => absurd c15543 (by omega))
        refine ev_iconst ?_
        refine ev_icmpne f60_115 (fun c15544 => ?_) (fun c15544 => absurd c15544 (by omega))
        refine ev_ldc2_w ?_
        refine ev_aload_n rfl ?_
        refine ev_aload_n rfl ?_
        refine ev_iload rfl ?_
        refine ev_in (d := 2) (a := 0) (b := 0) (cd' := c58_0) (m := 3) (L0 := [(2, (r0 : Int)), (2, 1), (0, a2)]) (jcall_v (A := [(0, a2), (2, 1)]) (S' := [(1, (-100))]) (r := r0) rfl (g.qlt q0) (g.qtg q0) (Nat.le_of_ble_eq_true rfl)) (by decide) ml58 pp58 (Nat.le_of_ble_eq_true rfl) rfl (by decide) (by decide) ?_
        refine ev_aload_n rfl ?_
        refine ev_aload_n rfl ?_
        refine g_qgetp g q0 (c := 8) (by decide) (by decide) ft4_8 ?_
        refine ev_iload_n rfl ?_
        refine g_qiald g q0 (c := 8) (by decide) (by decide) (by decide) (by omega) (by show a2 < m0; omega) rfl (fun v15545 ev15545 lv15545 uv15545 => ?_)
        refine ev_in (d := 1) (a := 0) (b := 0) (cd' := c161_0) (m := 2) (L0 := [(2, 1), (0, v15545)]) (jcall_v (A := [(0, v15545)]) (S' := []) (r := 1) rfl (g.lt ad1) (g.tg ad1) (Nat.le_of_ble_eq_true rfl)) (by decide) ml161 pp161 (Nat.le_of_ble_eq_true rfl) rfl (by decide) (by decide) ?_
        refine ev_iload_n rfl ?_
        refine ev_iflt f161_12 (fun c15546 => ?_) (fun c15546 => ?_)
        · refine ev_lconst ?_
          refine ev_goto f161_22 ?_
          refine ev_ret rfl (by decide) (by decide) ?_
          show jEv _ _ _ _ _ _ _ (_, [(2, (r0 : Int)), (2, 1), (0, a2)], [(1, 0)], _, _, _)
          refine ev_ret rfl (by decide) (by decide) ?_
          show jEv _ _ _ _ _ _ _ (_, [(2, (r0 : Int)), (2, 1), (0, a2), (0, a3), (0, a4), (0, a5), (0, a2), (0, v15536), (0, 999), (0, v15540), (9, 0), (9, 0), (9, 0)], [(1, 0), (1, (-100))], _, _, _)
          refine ev_lmul (r := 0) (by decide) ?_
          refine ev_lstore (L' := [(2, (r0 : Int)), (2, 1), (0, a2), (0, a3), (0, a4), (0, a5), (0, a2), (0, v15536), (0, 999), (0, v15540), (1, 0), (9, 0), (9, 0)]) (Nat.le_of_ble_eq_true rfl) rfl ?_
          refine ev_iload rfl ?_
          refine ev_iconst ?_
          refine ev_icmplt f60_149 (fun c15547 => ?_) (fun c15547 => ?_)
          · refine ev_iconst ?_
            exact ev_ret rfl (by decide) (by decide) ⟨_, rfl, by omega, by omega, g, k0⟩
          · refine ev_aload_n rfl ?_
            refine ev_iload rfl ?_
            refine ev_iload rfl ?_
            refine ev_i2l ?_
            refine ev_lload rfl ?_
            refine ev_lmul (r := 0) (by unfold w64; omega) ?_
            refine ev_call (jcall_v (A := [(1, 0), (0, a2)]) (S' := []) (r := r0) rfl (g.qlt q0) (g.qtg q0) (Nat.le_of_ble_eq_true rfl)) (jOk_le (by decide) (s61 g q0 (by omega) (by omega) (by omega) (by omega))) (by decide) (by decide) (fun w15548 h15548 q15548 => ?_)
            obtain ⟨v15549, rfl, lv15549, uv15549, g15548, kk15548⟩ := q15548
            have k15548 := k0.tr kk15548 (by decide)
            show jEv _ _ _ _ _ _ _ (_, [(2, (r0 : Int)), (2, 1), (0, a2), (0, a3), (0, a4), (0, a5), (0, a2), (0, v15536), (0, 999), (0, v15540), (1, 0), (9, 0), (9, 0)], [(0, v15549)], _, _, _)
            refine ev_ifne f60_151 (fun c15550 => ?_) (fun c15550 => ?_)
            · refine ev_iconst ?_
              refine ev_istore (L' := [(2, (r0 : Int)), (2, 1), (0, a2), (0, a3), (0, a4), (0, a5), (0, a2), (0, v15536), (0, 999), (0, v15540), (1, 0), (9, 0), (0, 1)]) (Nat.le_of_ble_eq_true rfl) rfl ?_
              exact (s60_l q0 la2 ua2 la3 ua3 la4 ua4 la5 ua5 80) _ _ _ _ _ _ _ g15548 k15548 (by omega) (by omega) (by omega) (by omega) (by omega) (by omega) (by omega) (by omega) (by omega) (by omega) (by omega) (by omega) (by omega) (by omega) (by omega) (by omega) (by omega) (by omega) (by omega) (by omega) (by omega) (by omega)
            · refine ev_iconst ?_
              exact ev_ret rfl (by decide) (by decide) ⟨_, rfl, by omega, by omega, g15548, k15548⟩
        · refine ev_iload_n rfl ?_
          refine ev_aload_n rfl ?_
          refine ev_in (d := 0) (a := 0) (b := 0) (cd' := c157_0) (m := 1) (L0 := [(2, 1)]) (jcall_v (A := []) (S' := [(0, v15545)]) (r := 1) rfl (g.lt ad1) (g.tg ad1) (Nat.le_of_ble_eq_true rfl)) (by decide) ml157 pp157 (Nat.le_of_ble_eq_true rfl) rfl (by decide) (by decide) ?_
          refine ev_iconst ?_
          refine ev_iconst ?_
          refine ev_aload_n rfl ?_
          obtain ⟨v15551, ev15551, lv15551, uv15551⟩ := g.rd ad1 (show 0 < 8 by decide) rf1_0
          refine g_getv (r := 1) (v := v15551) g ad1 (by decide) ft10_0 ev15551 ?_
          refine ev_imul (r := (2 * v15551)) (by unfold w32; omega) ?_
          refine g_ishlB (a' := 1) (a := 1) (b := 8) (hi := 256) (by omega) (by omega) (by omega) (by omega) (by decide) (by decide) (fun v15552 ev15552 lv15552 uv15552 => ?_)
          refine ev_ret rfl (by decide) (by decide) ?_
          show jEv _ _ _ _ _ _ _ (_, [(2, 1), (0, v15545)], [(0, v15552), (0, v15545)], _, _, _)
          refine ev_icmplt f161_16 (fun c15553 => ?_) (fun c15553 => ?_)
          · refine ev_aload_n rfl ?_
            refine g_getp (r := 1) (c := 6) g ad1 (by decide) (by decide) rf1_7 ft10_7 ?_
            refine ev_iload_n rfl ?_
            refine g_lald g ad6 rt6 (by omega) (by omega) (fun v15554 ev15554 lv15554 uv15554 => ?_)
            refine ev_ret rfl (by decide) (by decide) ?_
            show jEv _ _ _ _ _ _ _ (_, [(2, (r0 : Int)), (2, 1), (0, a2)], [(1, v15554)], _, _, _)
            refine ev_ret rfl (by decide) (by decide) ?_
            show jEv _ _ _ _ _ _ _ (_, [(2, (r0 : Int)), (2, 1), (0, a2), (0, a3), (0, a4), (0, a5), (0, a2), (0, v15536), (0, 999), (0, v15540), (9, 0), (9, 0), (9, 0)], [(1, v15554), (1, (-100))], _, _, _)
            refine g_lmulG (fun v15555 ev15555 lv15555 uv15555 => ?_)
            refine ev_lstore (L' := [(2, (r0 : Int)), (2, 1), (0, a2), (0, a3), (0, a4), (0, a5), (0, a2), (0, v15536), (0, 999), (0, v15540), (1, v15555), (9, 0), (9, 0)]) (Nat.le_of_ble_eq_true rfl) rfl ?_
            refine ev_iload rfl ?_
            refine ev_iconst ?_
            refine ev_icmplt f60_149 (fun c15556 => ?_) (fun c15556 => ?_)
            · refine ev_iconst ?_
              exact ev_ret rfl (by decide) (by decide) ⟨_, rfl, by omega, by omega, g, k0⟩
            · refine ev_aload_n rfl ?_
              refine ev_iload rfl ?_
              refine ev_iload rfl ?_
              refine ev_i2l ?_
              refine ev_lload rfl ?_
              refine g_lmulG (fun v15557 ev15557 lv15557 uv15557 => ?_)
              refine ev_call (jcall_v (A := [(1, v15557), (0, a2)]) (S' := []) (r := r0) rfl (g.qlt q0) (g.qtg q0) (Nat.le_of_ble_eq_true rfl)) (jOk_le (by decide) (s61 g q0 (by omega) (by omega) (by omega) (by omega))) (by decide) (by decide) (fun w15558 h15558 q15558 => ?_)
              obtain ⟨v15559, rfl, lv15559, uv15559, g15558, kk15558⟩ := q15558
              have k15558 := k0.tr kk15558 (by decide)
              show jEv _ _ _ _ _ _ _ (_, [(2, (r0 : Int)), (2, 1), (0, a2), (0, a3), (0, a4), (0, a5), (0, a2), (0, v15536), (0, 999), (0, v15540), (1, v15555), (9, 0), (9, 0)], [(0, v15559)], _, _, _)
              refine ev_ifne f60_151 (fun c15560 => ?_) (fun c15560 => ?_)
              · refine ev_iconst ?_
                refine ev_istore (L' := [(2, (r0 : Int)), (2, 1), (0, a2), (0, a3), (0, a4), (0, a5), (0, a2), (0, v15536), (0, 999), (0, v15540), (1, v15555), (9, 0), (0, 1)]) (Nat.le_of_ble_eq_true rfl) rfl ?_
                exact (s60_l q0 la2 ua2 la3 ua3 la4 ua4 la5 ua5 80) _ _ _ _ _ _ _ g15558 k15558 (by omega) (by omega) (by omega) (by omega) (by omega) (by omega) (by omega) (by omega) (by omega) (by omega) (by omega) (by omega) (by omega) (by omega) (by omega) (by omega) (by omega) (by omega) (by omega) (by omega) (by omega) (by omega)
              · refine ev_iconst ?_
                exact ev_ret rfl (by decide) (by decide) ⟨_, rfl, by omega, by omega, g15558, k15558⟩
          · refine ev_lconst ?_
            refine ev_goto f161_22 ?_
            refine ev_ret rfl (by decide) (by decide) ?_
            show jEv _ _ _ _ _ _ _ (_, [(2, (r0 : Int)), (2, 1), (0, a2)], [(1, 0)], _, _, _)
            refine ev_ret rfl (by decide) (by decide) ?_
            show jEv _ _ _ _ _ _ _ (_, [(2, (r0 : Int)), (2, 1), (0, a2), (0, a3), (0, a4), (0, a5), (0, a2), (0, v15536), (0, 999), (0, v15540), (9, 0), (9, 0), (9, 0)], [(1, 0), (1, (-100))], _, _, _)
            refine ev_lmul (r := 0) (by decide) ?_
            refine ev_lstore (L' := [(2, (r0 : Int)), (2, 1), (0, a2), (0, a3), (0, a4), (0, a5), (0, a2), (0, v15536), (0, 999), (0, v15540), (1, 0), (9, 0), (9, 0)]) (Nat.le_of_ble_eq_true rfl) rfl ?_
            refine ev_iload rfl ?_
            refine ev_iconst ?_
            refine ev_icmplt f60_149 (fun c15561 => ?_) (fun c15561 => ?_)
            · refine ev_iconst ?_
              exact ev_ret rfl (by decide) (by decide) ⟨_, rfl, by omega, by omega, g, k0⟩
            · refine ev_aload_n rfl ?_
              refine ev_iload rfl ?_
              refine ev_iload rfl ?_
              refine ev_i2l ?_
              refine ev_lload rfl ?_
              refine ev_lmul (r := 0) (by unfold w64; omega) ?_
              refine ev_call (jcall_v (A := [(1, 0), (0, a2)]) (S' := []) (r := r0) rfl (g.qlt q0) (g.qtg q0) (Nat.le_of_ble_eq_true rfl)) (jOk_le (by decide) (s61 g q0 (by omega) (by omega) (by omega) (by omega))) (by decide) (by decide) (fun w15562 h15562 q15562 => ?_)
              obtain ⟨v15563, rfl, lv15563, uv15563, g15562, kk15562⟩ := q15562
              have k15562 := k0.tr kk15562 (by decide)
              show jEv _ _ _ _ _ _ _ (_, [(2, (r0 : Int)), (2, 1), (0, a2), (0, a3), (0, a4), (0, a5), (0, a2), (0, v15536), (0, 999), (0, v15540), (1, 0), (9, 0), (9, 0)], [(0, v15563)], _, _, _)
              refine ev_ifne f60_151 (fun c15564 => ?_) (fun c15564 => ?_)
              · refine ev_iconst ?_
                refine ev_istore (L' := [(2, (r0 : Int)), (2, 1), (0, a2), (0, a3), (0, a4), (0, a5), (0, a2), (0, v15536), (0, 999), (0, v15540), (1, 0), (9, 0), (0, 1)]) (Nat.le_of_ble_eq_true rfl) rfl ?_
                exact (s60_l q0 la2 ua2 la3 ua3 la4 ua4 la5 ua5 80) _ _ _ _ _ _ _ g15562 k15562 (by omega) (by omega) (by omega) (by omega) (by omega) (by omega) (by omega) (by omega) (by omega) (by omega) (by omega) (by omega) (by omega) (by omega) (by omega) (by omega) (by omega) (by omega) (by omega) (by omega) (by omega) (by omega)
              · refine ev_iconst ?_
                exact ev_ret rfl (by decide) (by decide) ⟨_, rfl, by omega, by omega, g15562, k15562⟩
      · refine ev_iload_n rfl ?_
        refine ev_goto f381_10 ?_
        refine ev_ret rfl (by decide) (by decide) ?_
        show jEv _ _ _ _ _ _ _ (_, [(2, (r0 : Int)), (2, 1), (0, a2), (0, a3), (0, a4), (0, a5), (0, a2), (0, v15536), (0, 999), (9, 0), (9, 0), (9, 0), (9, 0)], [(0, a5)], _, _, _)
        refine ev_istore (L' := [(2, (r0 : Int)), (2, 1), (0, a2), (0, a3), (0, a4), (0, a5), (0, a2), (0, v15536), (0, 999), (0, a5), (9, 0), (9, 0), (9, 0)]) (Nat.le_of_ble_eq_true rfl) rfl ?_
        refine ev_iload_n rfl ?_
        refine ev_iconst ?_
        refine ev_icmpne f60_86 (fun c15565 => absurd c15565 (by omega)) (fun c15565 => ?_)
        refine ev_iconst ?_
        refine ev_goto f60_87 ?_
        refine ev_iload rfl ?_
        refine ev_iconst ?_
        refine ev_icmpne f60_97 (fun c15566 => ?_) (fun c15566 => absurd c15566 (by omega))
        refine ev_iconst ?_
        refine ev_icmpne f60_115 (fun c15567 => ?_) (fun c15567 => absurd c15567 (by omega))
        refine ev_ldc2_w ?_
        refine ev_aload_n rfl ?_
        refine ev_aload_n rfl ?_
        refine ev_iload rfl ?_
        refine ev_in (d := 2) (a := 0) (b := 0) (cd' := c58_0) (m := 3) (L0 := [(2, (r0 : Int)), (2, 1), (0, a2)]) (jcall_v (A := [(0, a2), (2, 1)]) (S' := [(1, (-100))]) (r := r0) rfl (g.qlt q0) (g.qtg q0) (Nat.le_of_ble_eq_true rfl)) (by decide) ml58 pp58 (Nat.le_of_ble_eq_true rfl) rfl (by decide) (by decide) ?_
        refine ev_aload_n rfl ?_
        refine ev_aload_n rfl ?_
        refine g_qgetp g q0 (c := 8) (by decide) (by decide) ft4_8 ?_
        refine ev_iload_n rfl ?_
        refine g_qiald g q0 (c := 8) (by decide) (by decide) (by decide) (by omega) (by show a2 < m0; omega) rfl (fun v15568 ev15568 lv15568 uv15568 => ?_)
        refine ev_in (d := 1) (a := 0) (b := 0) (cd' := c161_0) (m := 2) (L0 := [(2, 1), (0, v15568)]) (jcall_v (A := [(0, v15568)]) (S' := []) (r := 1) rfl (g.lt ad1) (g.tg ad1) (Nat.le_of_ble_eq_true rfl)) (by decide) ml161 pp161 (Nat.le_of_ble_eq_true rfl) rfl (by decide) (by decide) ?_
        refine ev_iload_n rfl ?_
        refine ev_iflt f161_12 (fun c15569 => ?_) (fun c15569 => ?_)
        · refine ev_lconst ?_
          refine ev_goto f161_22 ?_
          refine ev_ret rfl (by decide) (by decide) ?_
          show jEv _ _ _ _ _ _ _ (_, [(2, (r0 : Int)), (2, 1), (0, a2)], [(1, 0)], _, _, _)
          refine ev_ret rfl (by decide) (by decide) ?_
          show jEv _ _ _ _ _ _ _ (_, [(2, (r0 : Int)), (2, 1), (0, a2), (0, a3), (0, a4), (0, a5), (0, a2), (0, v15536), (0, 999), (0, a5), (9, 0), (9, 0), (9, 0)], [(1, 0), (1, (-100))], _, _, _)
          refine ev_lmul (r := 0) (by decide) ?_
          refine ev_lstore (L' := [(2, (r0 : Int)), (2, 1), (0, a2), (0, a3), (0, a4), (0, a5), (0, a2), (0, v15536), (0, 999), (0, a5), (1, 0), (9, 0), (9, 0)]) (Nat.le_of_ble_eq_true rfl) rfl ?_
          refine ev_iload rfl ?_
          refine ev_iconst ?_
          refine ev_icmplt f60_149 (fun c15570 => ?_) (fun c15570 => ?_)
          · refine ev_iconst ?_
            exact ev_ret rfl (by decide) (by decide) ⟨_, rfl, by omega, by omega, g, k0⟩
          · refine ev_aload_n rfl ?_
            refine ev_iload rfl ?_
            refine ev_iload rfl ?_
            refine ev_i2l ?_
            refine ev_lload rfl ?_
            refine ev_lmul (r := 0) (by unfold w64; omega) ?_
            refine ev_call (jcall_v (A := [(1, 0), (0, a2)]) (S' := []) (r := r0) rfl (g.qlt q0) (g.qtg q0) (Nat.le_of_ble_eq_true rfl)) (jOk_le (by decide) (s61 g q0 (by omega) (by omega) (by omega) (by omega))) (by decide) (by decide) (fun w15571 h15571 q15571 => ?_)
            obtain ⟨v15572, rfl, lv15572, uv15572, g15571, kk15571⟩ := q15571
            have k15571 := k0.tr kk15571 (by decide)
            show jEv _ _ _ _ _ _ _ (_, [(2, (r0 : Int)), (2, 1), (0, a2), (0, a3), (0, a4), (0, a5), (0, a2), (0, v15536), (0, 999), (0, a5), (1, 0), (9, 0), (9, 0)], [(0, v15572)], _, _, _)
            refine ev_ifne f60_151 (fun c15573 => ?_) (fun c15573 => ?_)
            · refine ev_iconst ?_
              refine ev_istore (L' := [(2, (r0 : Int)), (2, 1), (0, a2), (0, a3), (0, a4), (0, a5), (0, a2), (0, v15536), (0, 999), (0, a5), (1, 0), (9, 0), (0, 1)]) (Nat.le_of_ble_eq_true rfl) rfl ?_
              exact (s60_l q0 la2 ua2 la3 ua3 la4 ua4 la5 ua5 80) _ _ _ _ _ _ _ g15571 k15571 (by omega) (by omega) (by omega) (by omega) (by omega) (by omega) (by omega) (by omega) (by omega) (by omega) (by omega) (by omega) (by omega) (by omega) (by omega) (by omega) (by omega) (by omega) (by omega) (by omega) (by omega) (by omega)
            · refine ev_iconst ?_
              exact ev_ret rfl (by decide) (by decide) ⟨_, rfl, by omega, by omega, g15571, k15571⟩
        · refine ev_iload_n rfl ?_
          refine ev_aload_n rfl ?_
          refine ev_in (d := 0) (a := 0) (b := 0) (cd' := c157_0) (m := 1) (L0 := [(2, 1)]) (jcall_v (A := []) (S' := [(0, v15568)]) (r := 1) rfl (g.lt ad1) (g.tg ad1) (Nat.le_of_ble_eq_true rfl)) (by decide) ml157 pp157 (Nat.le_of_ble_eq_true rfl) rfl (by decide) (by decide) ?_
          refine ev_iconst ?_
          refine ev_iconst ?_
          refine ev_aload_n rfl ?_
          obtain ⟨v15574, ev15574, lv15574, uv15574⟩ := g.rd ad1 (show 0 < 8 by decide) rf1_0
          refine g_getv (r := 1) (v := v15574) g ad1 (by decide) ft10_0 ev15574 ?_
          refine ev_imul (r := (2 * v15574)) (by unfold w32; omega) ?_
          refine g_ishlB (a' := 1) (a := 1) (b := 8) (hi := 256) (by omega) (by omega) (by omega) (by omega) (by decide) (by decide) (fun v15575 ev15575 lv15575 uv15575 => ?_)
          refine ev_ret rfl (by decide) (by decide) ?_
          show jEv _ _ _ _ _ _ _ (_, [(2, 1), (0, v15568)], [(0, v15575), (0, v15568)], _, _, _)
          refine ev_icmplt f161_16 (fun c15576 => ?_) (fun c15576 => ?_)
          · refine ev_aload_n rfl ?_
            refine g_getp (r := 1) (c := 6) g ad1 (by decide) (by decide) rf1_7 ft10_7 ?_
            refine ev_iload_n rfl ?_
            refine g_lald g ad6 rt6 (by omega) (by omega) (fun v15577 ev15577 lv15577 uv15577 => ?_)
            refine ev_ret rfl (by decide) (by decide) ?_
            show jEv _ _ _ _ _ _ _ (_, [(2, (r0 : Int)), (2, 1), (0, a2)], [(1, v15577)], _, _, _)
            refine ev_ret rfl (by decide) (by decide) ?_
            show jEv _ _ _ _ _ _ _ (_, [(2, (r0 : Int)), (2, 1), (0, a2), (0, a3), (0, a4), (0, a5), (0, a2), (0, v15536), (0, 999), (0, a5), (9, 0), (9, 0), (9, 0)], [(1, v15577), (1, (-100))], _, _, _)
            refine g_lmulG (fun v15578 ev15578 lv15578 uv15578 => ?_)
            refine ev_lstore (L' := [(2, (r0 : Int)), (2, 1), (0, a2), (0, a3), (0, a4), (0, a5), (0, a2), (0, v15536), (0, 999), (0, a5), (1, v15578), (9, 0), (9, 0)]) (Nat.le_of_ble_eq_true rfl) rfl ?_
            refine ev_iload rfl ?_
            refine ev_iconst ?_
            refine ev_icmplt f60_149 (fun c15579 => ?_) (fun c15579 => ?_)
            · refine ev_iconst ?_
              exact ev_ret rfl (by decide) (by decide) ⟨_, rfl, by omega, by omega, g, k0⟩
            · refine ev_aload_n rfl ?_
              refine ev_iload rfl ?_
              refine ev_iload rfl ?_
              refine ev_i2l ?_
              refine ev_lload rfl ?_
              refine g_lmulG (fun v15580 ev15580 lv15580 uv15580 => ?_)
              refine ev_call (jcall_v (A := [(1, v15580), (0, a2)]) (S' := []) (r := r0) rfl (g.qlt q0) (g.qtg q0) (Nat.le_of_ble_eq_true rfl)) (jOk_le (by decide) (s61 g q0 (by omega) (by omega) (by omega) (by omega))) (by decide) (by decide) (fun w15581 h15581 q15581 => ?_)
              obtain ⟨v15582, rfl, lv15582, uv15582, g15581, kk15581⟩ := q15581
              have k15581 := k0.tr kk15581 (by decide)
              show jEv _ _ _ _ _ _ _ (_, [(2, (r0 : Int)), (2, 1), (0, a2), (0, a3), (0, a4), (0, a5), (0, a2), (0, v15536), (0, 999), (0, a5), (1, v15578), (9, 0), (9, 0)], [(0, v15582)], _, _, _)
              refine ev_ifne f60_151 (fun c15583 => ?_) (fun c15583 => ?_)
              · refine ev_iconst ?_
                refine ev_istore (L' := [(2, (r0 : Int)), (2, 1), (0, a2), (0, a3), (0, a4), (0, a5), (0, a2), (0, v15536), (0, 999), (0, a5), (1, v15578), (9, 0), (0, 1)]) (Nat.le_of_ble_eq_true rfl) rfl ?_
                exact (s60_l q0 la2 ua2 la3 ua3 la4 ua4 la5 ua5 80) _ _ _ _ _ _ _ g15581 k15581 (by omega) (by omega) (by omega) (by omega) (by omega) (by omega) (by omega) (by omega) (by omega) (by omega) (by omega) (by omega) (by omega) (by omega) (by omega) (by omega) (by omega) (by omega) (by omega) (by omega) (by omega) (by omega)
              · refine ev_iconst ?_
                exact ev_ret rfl (by decide) (by decide) ⟨_, rfl, by omega, by omega, g15581, k15581⟩
          · refine ev_lconst ?_
            refine ev_goto f161_22 ?_
            refine ev_ret rfl (by decide) (by decide) ?_
            show jEv _ _ _ _ _ _ _ (_, [(2, (r0 : Int)), (2, 1), (0, a2)], [(1, 0)], _, _, _)
            refine ev_ret rfl (by decide) (by decide) ?_
            show jEv _ _ _ _ _ _ _ (_, [(2, (r0 : Int)), (2, 1), (0, a2), (0, a3), (0, a4), (0, a5), (0, a2), (0, v15536), (0, 999), (0, a5), (9, 0), (9, 0), (9, 0)], [(1, 0), (1, (-100))], _, _, _)
            refine ev_lmul (r := 0) (by decide) ?_
            refine ev_lstore (L' := [(2, (r0 : Int)), (2, 1), (0, a2), (0, a3), (0, a4), (0, a5), (0, a2), (0, v15536), (0, 999), (0, a5), (1, 0), (9, 0), (9, 0)]) (Nat.le_of_ble_eq_true rfl) rfl ?_
            refine ev_iload rfl ?_
            refine ev_iconst ?_
            refine ev_icmplt f60_149 (fun c15584 => ?_) (fun c15584 => ?_)
            · refine ev_iconst ?_
              exact ev_ret rfl (by decide) (by decide) ⟨_, rfl, by omega, by omega, g, k0⟩
            · refine ev_aload_n rfl ?_
              refine ev_iload rfl ?_
              refine ev_iload rfl ?_
              refine ev_i2l ?_
              refine ev_lload rfl ?_
              refine ev_lmul (r := 0) (by unfold w64; omega) ?_
              refine ev_call (jcall_v (A := [(1, 0), (0, a2)]) (S' := []) (r := r0) rfl (g.qlt q0) (g.qtg q0) (Nat.le_of_ble_eq_true rfl)) (jOk_le (by decide) (s61 g q0 (by omega) (by omega) (by omega) (by omega))) (by decide) (by decide) (fun w15585 h15585 q15585 => ?_)
              obtain ⟨v15586, rfl, lv15586, uv15586, g15585, kk15585⟩ := q15585
              have k15585 := k0.tr kk15585 (by decide)
              show jEv _ _ _ _ _ _ _ (_, [(2, (r0 : Int)), (2, 1), (0, a2), (0, a3), (0, a4), (0, a5), (0, a2), (0, v15536), (0, 999), (0, a5), (1, 0), (9, 0), (9, 0)], [(0, v15586)], _, _, _)
              refine ev_ifne f60_151 (fun c15587 => ?_) (fun c15587 => ?_)
              · refine ev_iconst ?_
                refine ev_istore (L' := [(2, (r0 : Int)), (2, 1), (0, a2), (0, a3), (0, a4), (0, a5), (0, a2), (0, v15536), (0, 999), (0, a5), (1, 0), (9, 0), (0, 1)]) (Nat.le_of_ble_eq_true rfl) rfl ?_
                exact (s60_l q0 la2 ua2 la3 ua3 la4 ua4 la5 ua5 80) _ _ _ _ _ _ _ g15585 k15585 (by omega) (by omega) (by omega) (by omega) (by omega) (by omega) (by omega) (by omega) (by omega) (by omega) (by omega) (by omega) (by omega) (by omega) (by omega) (by omega) (by omega) (by omega) (by omega) (by omega) (by omega) (by omega)
              · refine ev_iconst ?_
                exact ev_ret rfl (by decide) (by decide) ⟨_, rfl, by omega, by omega, g15585, k15585⟩
    · refine ev_iload rfl ?_
      refine ev_iload rfl ?_
      refine g_isubG (fun v15588 ev15588 lv15588 uv15588 => ?_)
      refine ev_goto f60_72 ?_
      refine ev_in (d := 2) (a := 0) (b := 0) (cd' := c381_0) (m := 2) (L0 := [(0, a5), (0, v15588)]) (jcall_s (A := [(0, v15588), (0, a5)]) (S' := []) (by decide) rfl (Nat.le_of_ble_eq_true rfl)) (by decide) ml381 pp381 (Nat.le_of_ble_eq_true rfl) rfl (by decide) (by decide) ?_
      refine ev_iload_n rfl ?_
      refine ev_iload_n rfl ?_
      refine ev_icmpgt f381_9 (fun c15589 => ?_) (fun c15589 => ?_)
      · refine ev_iload_n rfl ?_
        refine ev_ret rfl (by decide) (by decide) ?_
        show jEv _ _ _ _ _ _ _ (_, [(2, (r0 : Int)), (2, 1), (0, a2), (0, a3), (0, a4), (0, a5), (0, a2), (0, v15536), (0, 999), (9, 0), (9, 0), (9, 0), (9, 0)], [(0, v15588)], _, _, _)
        refine ev_istore (L' := [(2, (r0 : Int)), (2, 1), (0, a2), (0, a3), (0, a4), (0, a5), (0, a2), (0, v15536), (0, 999), (0, v15588), (9, 0), (9, 0), (9, 0)]) (Nat.le_of_ble_eq_true rfl) rfl ?_
        refine ev_iload_n rfl ?_
        refine ev_iconst ?_
        refine ev_icmpne f60_86 (fun c15590 => absurd c15590 (by omega)) (fun c15590 => ?_)
        refine ev_iconst ?_
        refine ev_goto f60_87 ?_
        refine ev_iload rfl ?_
        refine ev_iconst ?_
        refine ev_icmpne f60_97 (fun c15591 => absurd c15591 (by omega)) (fun c15591 => ?_)
        refine ev_iconst ?_
        refine ev_goto f60_98 ?_
        refine ev_icmpne f60_115 (fun c15592 => absurd c15592 (by omega)) (fun c15592 => ?_)
        refine ev_ldc2_w ?_
        refine ev_aload_n rfl ?_
        refine ev_aload_n rfl ?_
        refine ev_iload rfl ?_
        refine ev_in (d := 2) (a := 0) (b := 0) (cd' := c58_0) (m := 3) (L0 := [(2, (r0 : Int)), (2, 1), (0, a2)]) (jcall_v (A := [(0, a2), (2, 1)]) (S' := [(1, 100)]) (r := r0) rfl (g.qlt q0) (g.qtg q0) (Nat.le_of_ble_eq_true rfl)) (by decide) ml58 pp58 (Nat.le_of_ble_eq_true rfl) rfl (by decide) (by decide) ?_
        refine ev_aload_n rfl ?_
        refine ev_aload_n rfl ?_
        refine g_qgetp g q0 (c := 8) (by decide) (by decide) ft4_8 ?_
        refine ev_iload_n rfl ?_
        refine g_qiald g q0 (c := 8) (by decide) (by decide) (by decide) (by omega) (by show a2 < m0; omega) rfl (fun v15593 ev15593 lv15593 uv15593 => ?_)
        refine ev_in (d := 1) (a := 0) (b := 0) (cd' := c161_0) (m := 2) (L0 := [(2, 1), (0, v15593)]) (jcall_v (A := [(0, v15593)]) (S' := []) (r := 1) rfl (g.lt ad1) (g.tg ad1) (Nat.le_of_ble_eq_true rfl)) (by decide) ml161 pp161 (Nat.le_of_ble_eq_true rfl) rfl (by decide) (by decide) ?_
        refine ev_iload_n rfl ?_
        refine ev_iflt f161_12 (fun c15594 => ?_) (fun c15594 => ?_)
        · refine ev_lconst ?_
          refine ev_goto f161_22 ?_
          refine ev_ret rfl (by decide) (by decide) ?_
          show jEv _ _ _ _ _ _ _ (_, [(2, (r0 : Int)), (2, 1), (0, a2)], [(1, 0)], _, _, _)
          refine ev_ret rfl (by decide) (by decide) ?_
          show jEv _ _ _ _ _ _ _ (_, [(2, (r0 : Int)), (2, 1), (0, a2), (0, a3), (0, a4), (0, a5), (0, a2), (0, v15536), (0, 999), (0, v15588), (9, 0), (9, 0), (9, 0)], [(1, 0), (1, 100)], _, _, _)
          refine ev_lmul (r := 0) (by decide) ?_
          refine ev_goto f60_126 ?_
          refine ev_lstore (L' := [(2, (r0 : Int)), (2, 1), (0, a2), (0, a3), (0, a4), (0, a5), (0, a2), (0, v15536), (0, 999), (0, v15588), (1, 0), (9, 0), (9, 0)]) (Nat.le_of_ble_eq_true rfl) rfl ?_
          refine ev_iload rfl ?_
          refine ev_iconst ?_
          refine ev_icmplt f60_149 (fun c15595 => ?_) (fun c15595 => ?_)
          · refine ev_iconst ?_
            exact ev_ret rfl (by decide) (by decide) ⟨_, rfl, by omega, by omega, g, k0⟩
          · refine ev_aload_n rfl ?_
            refine ev_iload rfl ?_
            refine ev_iload rfl ?_
            refine ev_i2l ?_
            refine ev_lload rfl ?_
            refine ev_lmul (r := 0) (by unfold w64; omega) ?_
            refine ev_call (jcall_v (A := [(1, 0), (0, a2)]) (S' := []) (r := r0) rfl (g.qlt q0) (g.qtg q0) (Nat.le_of_ble_eq_true rfl)) (jOk_le (by decide) (s61 g q0 (by omega) (by omega) (by omega) (by omega))) (by decide) (by decide) (fun w15596 h15596 q15596 => ?_)
            obtain ⟨v15597, rfl, lv15597, uv15597, g15596, kk15596⟩ := q15596
            have k15596 := k0.tr kk15596 (by decide)
            show jEv _ _ _ _ _ _ _ (_, [(2, (r0 : Int)), (2, 1), (0, a2), (0, a3), (0, a4), (0, a5), (0, a2), (0, v15536), (0, 999), (0, v15588), (1, 0), (9, 0), (9, 0)], [(0, v15597)], _, _, _)
            refine ev_ifne f60_151 (fun c15598 => ?_) (fun c15598 => ?_)
            · refine ev_iconst ?_
              refine ev_istore (L' := [(2, (r0 : Int)), (2, 1), (0, a2), (0, a3), (0, a4), (0, a5), (0, a2), (0, v15536), (0, 999), (0, v15588), (1, 0), (9, 0), (0, 1)]) (Nat.le_of_ble_eq_true rfl) rfl ?_
              exact (s60_l q0 la2 ua2 la3 ua3 la4 ua4 la5 ua5 80) _ _ _ _ _ _ _ g15596 k15596 (by omega) (by omega) (by omega) (by omega) (by omega) (by omega) (by omega) (by omega) (by omega) (by omega) (by omega) (by omega) (by omega) (by omega) (by omega) (by omega) (by omega) (by omega) (by omega) (by omega) (by omega) (by omega)
            · refine ev_iconst ?_
              exact ev_ret rfl (by decide) (by decide) ⟨_, rfl, by omega, by omega, g15596, k15596⟩
        · refine ev_iload_n rfl ?_
          refine ev_aload_n rfl ?_
          refine ev_in (d := 0) (a := 0) (b := 0) (cd' := c157_0) (m := 1) (L0 := [(2, 1)]) (jcall_v (A := []) (S' := [(0, v15593)]) (r := 1) rfl (g.lt ad1) (g.tg ad1) (Nat.le_of_ble_eq_true rfl)) (by decide) ml157 pp157 (Nat.le_of_ble_eq_true rfl) rfl (by decide) (by decide) ?_
          refine ev_iconst ?_
          refine ev_iconst ?_
          refine ev_aload_n rfl ?_
          obtain ⟨v15599, ev15599, lv15599, uv15599⟩ := g.rd ad1 (show 0 < 8 by decide) rf1_0
          refine g_getv (r := 1) (v := v15599) g ad1 (by decide) ft10_0 ev15599 ?_
          refine ev_imul (r := (2 * v15599)) (by unfold w32; omega) ?_
          refine g_ishlB (a' := 1) (a := 1) (b := 8) (hi := 256) (by omega) (by omega) (by omega) (by omega) (by decide) (by decide) (fun v15600 ev15600 lv15600 uv15600 => ?_)
          refine ev_ret rfl (by decide) (by decide) ?_
          show jEv _ _ _ _ _ _ _ (_, [(2, 1), (0, v15593)], [(0, v15600), (0, v15593)], _, _, _)
          refine ev_icmplt f161_16 (fun c15601 => ?_) (fun c15601 => ?_)
          · refine ev_aload_n rfl ?_
            refine g_getp (r := 1) (c := 6) g ad1 (by decide) (by decide) rf1_7 ft10_7 ?_
            refine ev_iload_n rfl ?_
            refine g_lald g ad6 rt6 (by omega) (by omega) (fun v15602 ev15602 lv15602 uv15602 => ?_)
            refine ev_ret rfl (by decide) (by decide) ?_
            show jEv _ _ _ _ _ _ _ (_, [(2, (r0 : Int)), (2, 1), (0, a2)], [(1, v15602)], _, _, _)
            refine ev_ret rfl (by decide) (by decide) ?_
            show jEv _ _ _ _ _ _ _ (_, [(2, (r0 : Int)), (2, 1), (0, a2), (0, a3), (0, a4), (0, a5), (0, a2), (0, v15536), (0, 999), (0, v15588), (9, 0), (9, 0), (9, 0)], [(1, v15602), (1, 100)], _, _, _)
            refine g_lmulG (fun v15603 ev15603 lv15603 uv15603 => ?_)
            refine ev_goto f60_126 ?_
            refine ev_lstore (L' := [(2, (r0 : Int)), (2, 1), (0, a2), (0, a3), (0, a4), (0, a5), (0, a2), (0, v15536), (0, 999), (0, v15588), (1, v15603), (9, 0), (9, 0)]) (Nat.le_of_ble_eq_true rfl) rfl ?_
            refine ev_iload rfl ?_
            refine ev_iconst ?_
            refine ev_icmplt f60_149 (fun c15604 => ?_) (fun c15604 => ?_)
            · refine ev_iconst ?_
              exact ev_ret rfl (by decide) (by decide) ⟨_, rfl, by omega, by omega, g, k0⟩
            · refine ev_aload_n rfl ?_
              refine ev_iload rfl ?_
              refine ev_iload rfl ?_
              refine ev_i2l ?_
              refine ev_lload rfl ?_
              refine g_lmulG (fun v15605 ev15605 lv15605 uv15605 => ?_)
              refine ev_call (jcall_v (A := [(1, v15605), (0, a2)]) (S' := []) (r := r0) rfl (g.qlt q0) (g.qtg q0) (Nat.le_of_ble_eq_true rfl)) (jOk_le (by decide) (s61 g q0 (by omega) (by omega) (by omega) (by omega))) (by decide) (by decide) (fun w15606 h15606 q15606 => ?_)
              obtain ⟨v15607, rfl, lv15607, uv15607, g15606, kk15606⟩ := q15606
              have k15606 := k0.tr kk15606 (by decide)
              show jEv _ _ _ _ _ _ _ (_, [(2, (r0 : Int)), (2, 1), (0, a2), (0, a3), (0, a4), (0, a5), (0, a2), (0, v15536), (0, 999), (0, v15588), (1, v15603), (9, 0), (9, 0)], [(0, v15607)], _, _, _)
              refine ev_ifne f60_151 (fun c15608 => ?_) (fun c15608 => ?_)
              · refine ev_iconst ?_
                refine ev_istore (L' := [(2, (r0 : Int)), (2, 1), (0, a2), (0, a3), (0, a4), (0, a5), (0, a2), (0, v15536), (0, 999), (0, v15588), (1, v15603), (9, 0), (0, 1)]) (Nat.le_of_ble_eq_true rfl) rfl ?_
                exact (s60_l q0 la2 ua2 la3 ua3 la4 ua4 la5 ua5 80) _ _ _ _ _ _ _ g15606 k15606 (by omega) (by omega) (by omega) (by omega) (by omega) (by omega) (by omega) (by omega) (by omega) (by omega) (by omega) (by omega) (by omega) (by omega) (by omega) (by omega) (by omega) (by omega) (by omega) (by omega) (by omega) (by omega)
              · refine ev_iconst ?_
                exact ev_ret rfl (by decide) (by decide) ⟨_, rfl, by omega, by omega, g15606, k15606⟩
          · refine ev_lconst ?_
            refine ev_goto f161_22 ?_
            refine ev_ret rfl (by decide) (by decide) ?_
            show jEv _ _ _ _ _ _ _ (_, [(2, (r0 : Int)), (2, 1), (0, a2)], [(1, 0)], _, _, _)
            refine ev_ret rfl (by decide) (by decide) ?_
            show jEv _ _ _ _ _ _ _ (_, [(2, (r0 : Int)), (2, 1), (0, a2), (0, a3), (0, a4), (0, a5), (0, a2), (0, v15536), (0, 999), (0, v15588), (9, 0), (9, 0), (9, 0)], [(1, 0), (1, 100)], _, _, _)
            refine ev_lmul (r := 0) (by decide) ?_
            refine ev_goto f60_126 ?_
            refine ev_lstore (L' := [(2, (r0 : Int)), (2, 1), (0, a2), (0, a3), (0, a4), (0, a5), (0, a2), (0, v15536), (0, 999), (0, v15588), (1, 0), (9, 0), (9, 0)]) (Nat.le_of_ble_eq_true rfl) rfl ?_
            refine ev_iload rfl ?_
            refine ev_iconst ?_
            refine ev_icmplt f60_149 (fun c15609 => ?_) (fun c15609 => ?_)
            · refine ev_iconst ?_
              exact ev_ret rfl (by decide) (by decide) ⟨_, rfl, by omega, by omega, g, k0⟩
            · refine ev_aload_n rfl ?_
              refine ev_iload rfl ?_
              refine ev_iload rfl ?_
              refine ev_i2l ?_
              refine ev_lload rfl ?_
              refine ev_lmul (r := 0) (by unfold w64; omega) ?_
              refine ev_call (jcall_v (A := [(1, 0), (0, a2)]) (S' := []) (r := r0) rfl (g.qlt q0) (g.qtg q0) (Nat.le_of_ble_eq_true rfl)) (jOk_le (by decide) (s61 g q0 (by omega) (by omega) (by omega) (by omega))) (by decide) (by decide) (fun w15610 h15610 q15610 => ?_)
              obtain ⟨v15611, rfl, lv15611, uv15611, g15610, kk15610⟩ := q15610
              have k15610 := k0.tr kk15610 (by decide)
              show jEv _ _ _ _ _ _ _ (_, [(2, (r0 : Int)), (2, 1), (0, a2), (0, a3), (0, a4), (0, a5), (0, a2), (0, v15536), (0, 999), (0, v15588), (1, 0), (9, 0), (9, 0)], [(0, v15611)], _, _, _)
              refine ev_ifne f60_151 (fun c15612 => ?_) (fun c15612 => ?_)
              · refine ev_iconst ?_
                refine ev_istore (L' := [(2, (r0 : Int)), (2, 1), (0, a2), (0, a3), (0, a4), (0, a5), (0, a2), (0, v15536), (0, 999), (0, v15588), (1, 0), (9, 0), (0, 1)]) (Nat.le_of_ble_eq_true rfl) rfl ?_
                exact (s60_l q0 la2 ua2 la3 ua3 la4 ua4 la5 ua5 80) _ _ _ _ _ _ _ g15610 k15610 (by omega) (by omega) (by omega) (by omega) (by omega) (by omega) (by omega) (by omega) (by omega) (by omega) (by omega) (by omega) (by omega) (by omega) (by omega) (by omega) (by omega) (by omega) (by omega) (by omega) (by omega) (by omega)
              · refine ev_iconst ?_
                exact ev_ret rfl (by decide) (by decide) ⟨_, rfl, by omega, by omega, g15610, k15610⟩
      · refine ev_iload_n rfl ?_
        refine ev_goto f381_10 ?_
        refine ev_ret rfl (by decide) (by decide) ?_
        show jEv _ _ _ _ _ _ _ (_, [(2, (r0 : Int)), (2, 1), (0, a2), (0, a3), (0, a4), (0, a5), (0, a2), (0, v15536), (0, 999), (9, 0), (9, 0), (9, 0), (9, 0)], [(0, a5)], _, _, _)
        refine ev_istore (L' := [(2, (r0 : Int)), (2, 1), (0, a2), (0, a3), (0, a4), (0, a5), (0, a2), (0, v15536), (0, 999), (0, a5), (9, 0), (9, 0), (9, 0)]) (Nat.le_of_ble_eq_true rfl) rfl ?_
        refine ev_iload_n rfl ?_
        refine ev_iconst ?_
        refine ev_icmpne f60_86 (fun c15613 => absurd c15613 (by omega)) (fun c15613 => ?_)
        refine ev_iconst ?_
        refine ev_goto f60_87 ?_
        refine ev_iload rfl ?_
        refine ev_iconst ?_
        refine ev_icmpne f60_97 (fun c15614 => absurd c15614 (by omega)) (fun c15614 => ?_)
        refine ev_iconst ?_
        refine ev_goto f60_98 ?_
        refine ev_icmpne f60_115 (fun c15615 => absurd c15615 (by omega)) (fun c15615 => ?_)
        refine ev_ldc2_w ?_
        refine ev_aload_n rfl ?_
        refine ev_aload_n rfl ?_
        refine ev_iload rfl ?_
        refine ev_in (d := 2) (a := 0) (b := 0) (cd' := c58_0) (m := 3) (L0 := [(2, (r0 : Int)), (2, 1), (0, a2)]) (jcall_v (A := [(0, a2), (2, 1)]) (S' := [(1, 100)]) (r := r0) rfl (g.qlt q0) (g.qtg q0) (Nat.le_of_ble_eq_true rfl)) (by decide) ml58 pp58 (Nat.le_of_ble_eq_true rfl) rfl (by decide) (by decide) ?_
        refine ev_aload_n rfl ?_
        refine ev_aload_n rfl ?_
        refine g_qgetp g q0 (c := 8) (by decide) (by decide) ft4_8 ?_
        refine ev_iload_n rfl ?_
        refine g_qiald g q0 (c := 8) (by decide) (by decide) (by decide) (by omega) (by show a2 < m0; omega) rfl (fun v15616 ev15616 lv15616 uv15616 => ?_)
        refine ev_in (d := 1) (a := 0) (b := 0) (cd' := c161_0) (m := 2) (L0 := [(2, 1), (0, v15616)]) (jcall_v (A := [(0, v15616)]) (S' := []) (r := 1) rfl (g.lt ad1) (g.tg ad1) (Nat.le_of_ble_eq_true rfl)) (by decide) ml161 pp161 (Nat.le_of_ble_eq_true rfl) rfl (by decide) (by decide) ?_
        refine ev_iload_n rfl ?_
        refine ev_iflt f161_12 (fun c15617 => ?_) (fun c15617 => ?_)
        · refine ev_lconst ?_
          refine ev_goto f161_22 ?_
          refine ev_ret rfl (by decide) (by decide) ?_
          show jEv _ _ _ _ _ _ _ (_, [(2, (r0 : Int)), (2, 1), (0, a2)], [(1, 0)], _, _, _)
          refine ev_ret rfl (by decide) (by decide) ?_
          show jEv _ _ _ _ _ _ _ (_, [(2, (r0 : Int)), (2, 1), (0, a2), (0, a3), (0, a4), (0, a5), (0, a2), (0, v15536), (0, 999), (0, a5), (9, 0), (9, 0), (9, 0)], [(1, 0), (1, 100)], _, _, _)
          refine ev_lmul (r := 0) (by decide) ?_
          refine ev_goto f60_126 ?_
          refine ev_lstore (L' := [(2, (r0 : Int)), (2, 1), (0, a2), (0, a3), (0, a4), (0, a5), (0, a2), (0, v15536), (0, 999), (0, a5), (1, 0), (9, 0), (9, 0)]) (Nat.le_of_ble_eq_true rfl) rfl ?_
          refine ev_iload rfl ?_
          refine ev_iconst ?_
          refine ev_icmplt f60_149 (fun c15618 => ?_) (fun c15618 => ?_)
          · refine ev_iconst ?_
            exact ev_ret rfl (by decide) (by decide) ⟨_, rfl, by omega, by omega, g, k0⟩
          · refine ev_aload_n rfl ?_
            refine ev_iload rfl ?_
            refine ev_iload rfl ?_
            refine ev_i2l ?_
            refine ev_lload rfl ?_
            refine ev_lmul (r := 0) (by unfold w64; omega) ?_
            refine ev_call (jcall_v (A := [(1, 0), (0, a2)]) (S' := []) (r := r0) rfl (g.qlt q0) (g.qtg q0) (Nat.le_of_ble_eq_true rfl)) (jOk_le (by decide) (s61 g q0 (by omega) (by omega) (by omega) (by omega))) (by decide) (by decide) (fun w15619 h15619 q15619 => ?_)
            obtain ⟨v15620, rfl, lv15620, uv15620, g15619, kk15619⟩ := q15619
            have k15619 := k0.tr kk15619 (by decide)
            show jEv _ _ _ _ _ _ _ (_, [(2, (r0 : Int)), (2, 1), (0, a2), (0, a3), (0, a4), (0, a5), (0, a2), (0, v15536), (0, 999), (0, a5), (1, 0), (9, 0), (9, 0)], [(0, v15620)], _, _, _)
            refine ev_ifne f60_151 (fun c15621 => ?_) (fun c15621 => ?_)
            · refine ev_iconst ?_
              refine ev_istore (L' := [(2, (r0 : Int)), (2, 1), (0, a2), (0, a3), (0, a4), (0, a5), (0, a2), (0, v15536), (0, 999), (0, a5), (1, 0), (9, 0), (0, 1)]) (Nat.le_of_ble_eq_true rfl) rfl ?_
              exact (s60_l q0 la2 ua2 la3 ua3 la4 ua4 la5 ua5 80) _ _ _ _ _ _ _ g15619 k15619 (by omega) (by omega) (by omega) (by omega) (by omega) (by omega) (by omega) (by omega) (by omega) (by omega) (by omega) (by omega) (by omega) (by omega) (by omega) (by omega) (by omega) (by omega) (by omega) (by omega) (by omega) (by omega)
            · refine ev_iconst ?_
              exact ev_ret rfl (by decide) (by decide) ⟨_, rfl, by omega, by omega, g15619, k15619⟩
        · refine ev_iload_n rfl ?_
          refine ev_aload_n rfl ?_
          refine ev_in (d := 0) (a := 0) (b := 0) (cd' := c157_0) (m := 1) (L0 := [(2, 1)]) (jcall_v (A := []) (S' := [(0, v15616)]) (r := 1) rfl (g.lt ad1) (g.tg ad1) (Nat.le_of_ble_eq_true rfl)) (by decide) ml157 pp157 (Nat.le_of_ble_eq_true rfl) rfl (by decide) (by decide) ?_
          refine ev_iconst ?_
          refine ev_iconst ?_
          refine ev_aload_n rfl ?_
          obtain ⟨v15622, ev15622, lv15622, uv15622⟩ := g.rd ad1 (show 0 < 8 by decide) rf1_0
          refine g_getv (r := 1) (v := v15622) g ad1 (by decide) ft10_0 ev15622 ?_
          refine ev_imul (r := (2 * v15622)) (by unfold w32; omega) ?_
          refine g_ishlB (a' := 1) (a := 1) (b := 8) (hi := 256) (by omega) (by omega) (by omega) (by omega) (by decide) (by decide) (fun v15623 ev15623 lv15623 uv15623 => ?_)
          refine ev_ret rfl (by decide) (by decide) ?_
          show jEv _ _ _ _ _ _ _ (_, [(2, 1), (0, v15616)], [(0, v15623), (0, v15616)], _, _, _)
          refine ev_icmplt f161_16 (fun c15624 => ?_) (fun c15624 => ?_)
          · refine ev_aload_n rfl ?_
            refine g_getp (r := 1) (c := 6) g ad1 (by decide) (by decide) rf1_7 ft10_7 ?_
            refine ev_iload_n rfl ?_
            refine g_lald g ad6 rt6 (by omega) (by omega) (fun v15625 ev15625 lv15625 uv15625 => ?_)
            refine ev_ret rfl (by decide) (by decide) ?_
            show jEv _ _ _ _ _ _ _ (_, [(2, (r0 : Int)), (2, 1), (0, a2)], [(1, v15625)], _, _, _)
            refine ev_ret rfl (by decide) (by decide) ?_
            show jEv _ _ _ _ _ _ _ (_, [(2, (r0 : Int)), (2, 1), (0, a2), (0, a3), (0, a4), (0, a5), (0, a2), (0, v15536), (0, 999), (0, a5), (9, 0), (9, 0), (9, 0)], [(1, v15625), (1, 100)], _, _, _)
            refine g_lmulG (fun v15626 ev15626 lv15626 uv15626 => ?_)
            refine ev_goto f60_126 ?_
            refine ev_lstore (L' := [(2, (r0 : Int)), (2, 1), (0, a2), (0, a3), (0, a4), (0, a5), (0, a2), (0, v15536), (0, 999), (0, a5), (1, v15626), (9, 0), (9, 0)]) (Nat.le_of_ble_eq_true rfl) rfl ?_
            refine ev_iload rfl ?_
            refine ev_iconst ?_
            refine ev_icmplt f60_149 (fun c15627 => ?_) (fun c15627 => ?_)
            · refine ev_iconst ?_
              exact ev_ret rfl (by decide) (by decide) ⟨_, rfl, by omega, by omega, g, k0⟩
            · refine ev_aload_n rfl ?_
              refine ev_iload rfl ?_
              refine ev_iload rfl ?_
              refine ev_i2l ?_
              refine ev_lload rfl ?_
              refine g_lmulG (fun v15628 ev15628 lv15628 uv15628 => ?_)
              refine ev_call (jcall_v (A := [(1, v15628), (0, a2)]) (S' := []) (r := r0) rfl (g.qlt q0) (g.qtg q0) (Nat.le_of_ble_eq_true rfl)) (jOk_le (by decide) (s61 g q0 (by omega) (by omega) (by omega) (by omega))) (by decide) (by decide) (fun w15629 h15629 q15629 => ?_)
              obtain ⟨v15630, rfl, lv15630, uv15630, g15629, kk15629⟩ := q15629
              have k15629 := k0.tr kk15629 (by decide)
              show jEv _ _ _ _ _ _ _ (_, [(2, (r0 : Int)), (2, 1), (0, a2), (0, a3), (0, a4), (0, a5), (0, a2), (0, v15536), (0, 999), (0, a5), (1, v15626), (9, 0), (9, 0)], [(0, v15630)], _, _, _)
              refine ev_ifne f60_151 (fun c15631 => ?_) (fun c15631 => ?_)
              · refine ev_iconst ?_
                refine ev_istore (L' := [(2, (r0 : Int)), (2, 1), (0, a2), (0, a3), (0, a4), (0, a5), (0, a2), (0, v15536), (0, 999), (0, a5), (1, v15626), (9, 0), (0, 1)]) (Nat.le_of_ble_eq_true rfl) rfl ?_
                exact (s60_l q0 la2 ua2 la3 ua3 la4 ua4 la5 ua5 80) _ _ _ _ _ _ _ g15629 k15629 (by omega) (by omega) (by omega) (by omega) (by omega) (by omega) (by omega) (by omega) (by omega) (by omega) (by omega) (by omega) (by omega) (by omega) (by omega) (by omega) (by omega) (by omega) (by omega) (by omega) (by omega) (by omega)
              · refine ev_iconst ?_
                exact ev_ret rfl (by decide) (by decide) ⟨_, rfl, by omega, by omega, g15629, k15629⟩
          · refine ev_lconst ?_
            refine ev_goto f161_22 ?_
            refine ev_ret rfl (by decide) (by decide) ?_
            show jEv _ _ _ _ _ _ _ (_, [(2, (r0 : Int)), (2, 1), (0, a2)], [(1, 0)], _, _, _)
            refine ev_ret rfl (by decide) (by decide) ?_
            show jEv _ _ _ _ _ _ _ (_, [(2, (r0 : Int)), (2, 1), (0, a2), (0, a3), (0, a4), (0, a5), (0, a2), (0, v15536), (0, 999), (0, a5), (9, 0), (9, 0), (9, 0)], [(1, 0), (1, 100)], _, _, _)
            refine ev_lmul (r := 0) (by decide) ?_
            refine ev_goto f60_126 ?_
            refine ev_lstore (L' := [(2, (r0 : Int)), (2, 1), (0, a2), (0, a3), (0, a4), (0, a5), (0, a2), (0, v15536), (0, 999), (0, a5), (1, 0), (9, 0), (9, 0)]) (Nat.le_of_ble_eq_true rfl) rfl ?_
            refine ev_iload rfl ?_
            refine ev_iconst ?_
            refine ev_icmplt f60_149 (fun c15632 => ?_) (fun c15632 => ?_)
            · refine ev_iconst ?_
              exact ev_ret rfl (by decide) (by decide) ⟨_, rfl, by omega, by omega, g, k0⟩
            · refine ev_aload_n rfl ?_
              refine ev_iload rfl ?_
              refine ev_iload rfl ?_
              refine ev_i2l ?_
              refine ev_lload rfl ?_
              refine ev_lmul (r := 0) (by unfold w64; omega) ?_
              refine ev_call (jcall_v (A := [(1, 0), (0, a2)]) (S' := []) (r := r0) rfl (g.qlt q0) (g.qtg q0) (Nat.le_of_ble_eq_true rfl)) (jOk_le (by decide) (s61 g q0 (by omega) (by omega) (by omega) (by omega))) (by decide) (by decide) (fun w15633 h15633 q15633 => ?_)
              obtain ⟨v15634, rfl, lv15634, uv15634, g15633, kk15633⟩ := q15633
              have k15633 := k0.tr kk15633 (by decide)
              show jEv _ _ _ _ _ _ _ (_, [(2, (r0 : Int)), (2, 1), (0, a2), (0, a3), (0, a4), (0, a5), (0, a2), (0, v15536), (0, 999), (0, a5), (1, 0), (9, 0), (9, 0)], [(0, v15634)], _, _, _)
              refine ev_ifne f60_151 (fun c15635 => ?_) (fun c15635 => ?_)
              · refine ev_iconst ?_
                refine ev_istore (L' := [(2, (r0 : Int)), (2, 1), (0, a2), (0, a3), (0, a4), (0, a5), (0, a2), (0, v15536), (0, 999), (0, a5), (1, 0), (9, 0), (0, 1)]) (Nat.le_of_ble_eq_true rfl) rfl ?_
                exact (s60_l q0 la2 ua2 la3 ua3 la4 ua4 la5 ua5 80) _ _ _ _ _ _ _ g15633 k15633 (by omega) (by omega) (by omega) (by omega) (by omega) (by omega) (by omega) (by omega) (by omega) (by omega) (by omega) (by omega) (by omega) (by omega) (by omega) (by omega) (by omega) (by omega) (by omega) (by omega) (by omega) (by omega)
              · refine ev_iconst ?_
                exact ev_ret rfl (by decide) (by decide) ⟨_, rfl, by omega, by omega, g15633, k15633⟩
/-! 64 take -/
set_option maxHeartbeats 4000000 in
theorem s64_l {G : GH} {h : JH} {a1 : Int} (la1 : 1 ≤ a1) (ua1 : a1 ≤ 4) {a2 : Int} (la2 : (-2147483648) ≤ a2) (ua2 : a2 ≤ 2147483647) : ∀ N : Nat, (∀ (h1 : JH) (x3 : Int), Gd G h1 → Kp [(7, 1), (8, 0)] h h1 → 1 ≤ a1 → a1 ≤ 4 → (-2147483648) ≤ a2 → a2 ≤ 2147483647 → 0 ≤ x3 → x3 ≤ 4 → ((-x3) + 4) < N → jEv (jOk 0) none (fun _ => 0) c64_0 0 0 (PI G [(7, 1), (8, 0)] h 0 0 200) (c64_2, [(2, 7), (0, a1), (0, a2), (0, x3)], [], h1, 0, 0)) := by
  intro N
  induction N with
  | zero => exact fun h1 x3 g1 k1 b0 b1 b2 b3 b4 b5 hm => absurd hm (by omega)
  | succ N ih =>
    show _
    intro h1 x3 g1 k1 b0 b1 b2 b3 b4 b5 hm
    refine ev_iload_n rfl ?_
    refine ev_iload_n rfl ?_
    refine ev_icmpge f64_49 (fun c15682 => ?_) (fun c15682 => ?_)
    · refine ev_aload_n rfl ?_
      obtain ⟨v15683, ev15683, lv15683, uv15683⟩ := g1.rd ad7 (show 0 < 15 by decide) rf7_0
      refine g_getv (r := 7) (v := v15683) g1 ad7 (by decide) ft5_0 ev15683 ?_
      exact ev_ret rfl (by decide) (by decide) ⟨_, rfl, by omega, by omega, g1, k1⟩
    · refine ev_aload_n rfl ?_
      obtain ⟨v15684, ev15684, lv15684, uv15684⟩ := g1.rd ad7 (show 0 < 15 by decide) rf7_0
      refine g_getv (r := 7) (v := v15684) g1 ad7 (by decide) ft5_0 ev15684 ?_
      refine ev_sipush ?_
      refine ev_icmpge f64_49 (fun c15685 => ?_) (fun c15685 => ?_)
      · refine ev_aload_n rfl ?_
        refine g_getv (r := 7) (v := v15684) g1 ad7 (by decide) ft5_0 (ev15684) ?_
        exact ev_ret rfl (by decide) (by decide) ⟨_, rfl, by omega, by omega, g1, k1⟩
      · refine ev_aload_n rfl ?_
        refine g_getp (r := 7) (c := 8) g1 ad7 (by decide) (by decide) rf7_5 ft5_5 ?_
        refine ev_aload_n rfl ?_
        refine g_getv (r := 7) (v := v15684) g1 ad7 (by decide) ft5_0 (ev15684) ?_
        refine ev_iload_n rfl ?_
        refine ev_bipush ?_
        refine ev_iload_n rfl ?_
        refine ev_imul (r := (8 * x3)) (by unfold w32; omega) ?_
        refine g_ishrG (fun v15686 ev15686 lv15686 uv15686 => ?_)
        refine g_i2bG (fun v15687 ev15687 lv15687 uv15687 => ?_)
        refine g_bast (w := v15687) g1 ad8 rt8 (fun _ => rfl) (by omega) (by omega) (by unfold w8; omega) (by omega) (by omega) (fun h15688 e15688 g15688 => ?_)
        have k15688 := k1.wr e15688 rfl
        refine ev_aload_n rfl ?_
        refine ev_dup (by decide) ?_
        refine g_getv (r := 7) (v := v15684) g15688 ad7 (by decide) ft5_0 (((jw_ne e15688 (Or.inl (by decide))).trans ev15684)) ?_
        refine ev_iconst ?_
        refine ev_iadd (r := (v15684 + 1)) (by unfold w32; omega) ?_
        refine g_putf (r := 7) g15688 ad7 (by decide) ft5_0 (by decide) (fun e => absurd e nz5_0) rf7_0 (by decide) (by omega) (by omega) (fun h15689 e15689 g15689 => ?_)
        have k15689 := k15688.wr e15689 rfl
        refine ev_iinc (w := (x3 + 1)) (L' := [(2, 7), (0, a1), (0, a2), (0, (x3 + 1))]) rfl (by unfold w32; omega) rfl ?_
        refine ev_goto f64_2 ?_
        exact ih _ _ g15689 k15689 (by omega) (by omega) (by omega) (by omega) (by omega) (by omega) (by omega)
set_option maxHeartbeats 4000000 in
theorem s64 {G : GH} {h : JH} (g : Gd G h) {a1 : Int} (la1 : 1 ≤ a1) (ua1 : a1 ≤ 4) {a2 : Int} (la2 : (-2147483648) ≤ a2) (ua2 : a2 ≤ 2147483647) : jOk 1 0 0 64 [(2, 7), (0, a1), (0, a2)] h (PI G [(7, 1), (8, 0)] h 0 0 200) := by
  refine ⟨by decide, by rw [ml64]; exact Nat.le_of_ble_eq_true rfl, ?_⟩
  rw [ml64, pp64]
  show jEv _ none _ c64_0 0 0 _ (c64_0, [(2, 7), (0, a1), (0, a2), (9, 0)], [], h, 0, 0)
  have k0 := Kp.rf [(7, 1), (8, 0)] h
  refine ev_iconst ?_
  refine ev_istore_n (L' := [(2, 7), (0, a1), (0, a2), (0, 0)]) (Nat.le_of_ble_eq_true rfl) rfl ?_
  exact (s64_l la1 ua1 la2 ua2 10) _ _ g k0 (by omega) (by omega) (by omega) (by omega) (by omega) (by omega) (by omega)
/-! 71 pass -/
set_option maxHeartbeats 4000000 in
theorem s71 {G : GH} {h : JH} (g : Gd G h) {a1 : Int} (la1 : 0 ≤ a1) (ua1 : a1 ≤ 255) {w0 : Int} (ew0 : h.2.2 7 1 = w0) (lw0 : (-1) ≤ w0) (uw0 : w0 ≤ 200) : jOk 2 0 0 71 [(2, 7), (0, a1)] h (fun v h' => ∃ F : Int, v = none ∧ Gd G h' ∧ Kp [(7, 2), (7, 3)] h h' ∧ h'.2.2 7 1 = F ∧ ((-F) + w0) ≤ 0) := by
  refine ⟨by decide, by rw [ml71]; exact Nat.le_of_ble_eq_true rfl, ?_⟩
  rw [ml71, pp71]
  show jEv _ none _ c71_0 0 0 _ (c71_0, [(2, 7), (0, a1)], [], h, 0, 0)
  have k0 := Kp.rf [(7, 2), (7, 3)] h
  refine ev_aload_n rfl ?_
  refine g_getv (r := 7) (v := w0) g ad7 (by decide) ft5_1 (ew0) ?_
  refine ev_iflt f71_8 (fun c15716 => ?_) (fun c15716 => ?_)
  · refine ev_aload_n rfl ?_
    refine ev_in (d := 0) (a := 0) (b := 0) (cd' := c68_0) (m := 1) (L0 := [(2, 7)]) (jcall_v (A := []) (S' := []) (r := 7) rfl (g.lt ad7) (g.tg ad7) (Nat.le_of_ble_eq_true rfl)) (by decide) ml68 pp68 (Nat.le_of_ble_eq_true rfl) rfl (by decide) (by decide) ?_
    refine ev_aload_n rfl ?_
    obtain ⟨v15717, ev15717, lv15717, uv15717⟩ := g.rd ad7 (show 2 < 15 by decide) rf7_2
    refine g_getv (r := 7) (v := v15717) g ad7 (by decide) ft5_2 ev15717 ?_
    refine ev_aload_n rfl ?_
    obtain ⟨v15718, ev15718, lv15718, uv15718⟩ := g.rd ad7 (show 0 < 15 by decide) rf7_0
    refine g_getv (r := 7) (v := v15718) g ad7 (by decide) ft5_0 ev15718 ?_
    refine ev_icmpge f68_27 (fun c15719 => ?_) (fun c15719 => ?_)
    · refine ev_iconst ?_
      refine ev_ret rfl (by decide) (by decide) ?_
      show jEv _ _ _ _ _ _ _ (_, [(2, 7), (0, a1)], [(0, (-1))], _, _, _)
      refine ev_iload_n rfl ?_
      refine ev_icmpne f71_29 (fun c15720 => ?_) (fun c15720 => absurd c15720 (by omega))
      refine ev_aload_n rfl ?_
      refine ev_in (d := 0) (a := 0) (b := 0) (cd' := c70_0) (m := 1) (L0 := [(2, 7)]) (jcall_v (A := []) (S' := []) (r := 7) rfl (g.lt ad7) (g.tg ad7) (Nat.le_of_ble_eq_true rfl)) (by decide) ml70 pp70 (Nat.le_of_ble_eq_true rfl) rfl (by decide) (by decide) ?_
      refine ev_aload_n rfl ?_
      refine g_getv (r := 7) (v := w0) g ad7 (by decide) ft5_1 (ew0) ?_
      refine ev_ifge f70_15 (fun c15721 => absurd c15721 (by omega)) (fun c15721 => ?_)
      refine ev_aload_n rfl ?_
      refine ev_aload_n rfl ?_
      refine g_getv (r := 7) (v := v15717) g ad7 (by decide) ft5_2 (ev15717) ?_
      refine g_putf (r := 7) g ad7 (by decide) ft5_1 (by decide) (fun e => absurd e nz5_1) rf7_1 (by decide) (by omega) (by omega) (fun h15722 e15722 g15722 => ?_)
      have k15722 := k0.wr e15722 rfl
      refine ev_ret rfl (by decide) (by decide) ?_
      show jEv _ _ _ _ _ _ _ (_, [(2, 7), (0, a1)], [], _, _, _)
      exact ev_ret rfl (by decide) (by decide) ⟨_, rfl, g15722, k15722, ((jw_eq e15722)), by omega⟩
    · refine ev_aload_n rfl ?_
      refine g_getp (r := 7) (c := 8) g ad7 (by decide) (by decide) rf7_5 ft5_5 ?_
      refine ev_aload_n rfl ?_
      refine g_getv (r := 7) (v := v15717) g ad7 (by decide) ft5_2 (ev15717) ?_
      refine g_bald g ad8 rt8 (by omega) (by omega) (fun v15723 ev15723 lv15723 uv15723 => ?_)
      refine ev_sipush ?_
      refine g_iandB (b := 255) (by omega) (by omega) (by decide) (fun v15724 ev15724 lv15724 uv15724 => ?_)
      refine ev_goto f68_28 ?_
      refine ev_ret rfl (by decide) (by decide) ?_
      show jEv _ _ _ _ _ _ _ (_, [(2, 7), (0, a1)], [(0, v15724)], _, _, _)
      refine ev_iload_n rfl ?_
      refine ev_icmpne f71_29 (fun c15725 => ?_) (fun c15725 => ?_)
      · refine ev_aload_n rfl ?_
        refine ev_in (d := 0) (a := 0) (b := 0) (cd' := c70_0) (m := 1) (L0 := [(2, 7)]) (jcall_v (A := []) (S' := []) (r := 7) rfl (g.lt ad7) (g.tg ad7) (Nat.le_of_ble_eq_true rfl)) (by decide) ml70 pp70 (Nat.le_of_ble_eq_true rfl) rfl (by decide) (by decide) ?_
        refine ev_aload_n rfl ?_
        refine g_getv (r := 7) (v := w0) g ad7 (by decide) ft5_1 (ew0) ?_
        refine ev_ifge f70_15 (fun c15726 => absurd c15726 (by omega)) (fun c15726 => ?_)
        refine ev_aload_n rfl ?_
        refine ev_aload_n rfl ?_
        refine g_getv (r := 7) (v := v15717) g ad7 (by decide) ft5_2 (ev15717) ?_
        refine g_putf (r := 7) g ad7 (by decide) ft5_1 (by decide) (fun e => absurd e nz5_1) rf7_1 (by decide) (by omega) (by omega) (fun h15727 e15727 g15727 => ?_)
        have k15727 := k0.wr e15727 rfl
        refine ev_ret rfl (by decide) (by decide) ?_
        show jEv _ _ _ _ _ _ _ (_, [(2, 7), (0, a1)], [], _, _, _)
        exact ev_ret rfl (by decide) (by decide) ⟨_, rfl, g15727, k15727, ((jw_eq e15727)), by omega⟩
      · refine ev_aload_n rfl ?_
        refine ev_dup (by decide) ?_
        refine g_getv (r := 7) (v := v15717) g ad7 (by decide) ft5_2 (ev15717) ?_
        refine ev_iconst ?_
        refine ev_iadd (r := (v15717 + 1)) (by unfold w32; omega) ?_
        refine g_putf (r := 7) g ad7 (by decide) ft5_2 (by decide) (fun e => absurd e nz5_2) rf7_2 (by decide) (by omega) (by omega) (fun h15728 e15728 g15728 => ?_)
        have k15728 := k0.wr e15728 rfl
        refine ev_goto f71_33 ?_
        exact ev_ret rfl (by decide) (by decide) ⟨_, rfl, g15728, k15728, (((jw_ne e15728 (Or.inr (by decide))).trans ew0)), by omega⟩
  · exact ev_ret rfl (by decide) (by decide) ⟨_, rfl, g, k0, (ew0), by omega⟩
