/-! 39 judgePicks -/
set_option maxHeartbeats 4000000 in
theorem s39 {G : GH} {h : JH} (g : Gd G h) {r0 : Nat} {m0 : Int} (q0 : IsQ G r0 m0) : jOk 1 0 0 39 [(2, (r0 : Int))] h (PV G [(1000000, 0)] h) := by
  refine ⟨by decide, by rw [ml39]; exact Nat.le_of_ble_eq_true rfl, ?_⟩
  rw [ml39, pp39]
  show jEv _ none _ c39_0 0 0 _ (c39_0, [(2, (r0 : Int))], [], h, 0, 0)
  have k0 := Kp.rf [(1000000, 0)] h
  have wr0 := g.qb q0
  have zr0 := q0.1
  refine ev_aload_n rfl ?_
  refine g_qgetp g q0 (c := 10) (by decide) (by decide) ft4_10 ?_
  refine ev_iconst ?_
  refine ev_aload_n rfl ?_
  refine g_qgetp g q0 (c := 9) (by decide) (by decide) ft4_9 ?_
  refine ev_iconst ?_
  refine ev_aload_n rfl ?_
  obtain ⟨v6363, ev6363, lv6363, uv6363⟩ := g.q0 q0
  refine g_qgetv (v := v6363) g q0 ft4_0 ev6363 ?_
  refine g_copyQ g q0 (c := 10) (c' := 9) (by decide) (by decide) (by decide) (by decide) rfl rfl rfl (by omega) (by omega) (by omega) (by show 0 + v6363 ≤ m0; omega) (by show 0 + v6363 ≤ m0; omega) (Nat.le_of_ble_eq_true rfl) (fun h6364 g6364 kk6364 => ?_)
  have k6364 := k0.tr kk6364 (by decide)
  exact ev_ret rfl (by decide) (by decide) ⟨rfl, g6364, k6364⟩
/-! 40 packPicks -/
set_option maxHeartbeats 4000000 in
theorem s40_l {G : GH} {h : JH} {r0 : Nat} {m0 : Int} (q0 : IsQ G r0 m0) {a2 : Int} (la2 : 0 ≤ a2) (ua2 : a2 ≤ 392) : ∀ N : Nat, (∀ (h1 : JH) (x3 : Int), Gd G h1 → Kp [(40, 0)] h h1 → 0 ≤ a2 → a2 ≤ 392 → 0 ≤ x3 → x3 ≤ 4 → ((-x3) + 105) < N → jEv (jOk 0) none (fun _ => 0) c40_0 0 0 (PV G [(40, 0)] h) (c40_2, [(2, (r0 : Int)), (2, 40), (0, a2), (0, x3)], [], h1, 0, 0)) ∧ (∀ (h1 : JH) (x3 : Int), Gd G h1 → Kp [(40, 0)] h h1 → 0 ≤ a2 → a2 ≤ 392 → 0 ≤ x3 → x3 ≤ 100 → ((-x3) + 100) < N → jEv (jOk 0) none (fun _ => 0) c40_0 0 0 (PV G [(40, 0)] h) (c40_21, [(2, (r0 : Int)), (2, 40), (0, a2), (0, x3)], [], h1, 0, 0)) := by
  intro N
  induction N with
  | zero => exact ⟨fun h1 x3 g1 k1 b0 b1 b2 b3 hm => absurd hm (by omega), fun h1 x3 g1 k1 b0 b1 b2 b3 hm => absurd hm (by omega)⟩
  | succ N ih =>
    refine ⟨?_, ?_⟩
    · intro h1 x3 g1 k1 b0 b1 b2 b3 hm
      have wr0 := g1.qb q0
      have zr0 := q0.1
      refine ev_iload_n rfl ?_
      refine ev_iconst ?_
      refine ev_icmpge f40_19 (fun c6726 => ?_) (fun c6726 => ?_)
      · refine ev_iconst ?_
        refine ev_istore_n (L' := [(2, (r0 : Int)), (2, 40), (0, a2), (0, 0)]) (Nat.le_of_ble_eq_true rfl) rfl ?_
        exact ih.2 _ _ g1 k1 (by omega) (by omega) (by omega) (by omega) (by omega)
      · refine ev_aload_n rfl ?_
        refine ev_iload_n rfl ?_
        refine ev_iload_n rfl ?_
        refine ev_iadd (r := (a2 + x3)) (by unfold w32; omega) ?_
        refine ev_lconst ?_
        refine g_last g1 ad40 rt40 (fun _ => rfl) (by omega) (by omega) (by omega) (by omega) (fun h6727 e6727 g6727 => ?_)
        have k6727 := k1.wr e6727 rfl
        refine ev_iinc (w := (x3 + 1)) (L' := [(2, (r0 : Int)), (2, 40), (0, a2), (0, (x3 + 1))]) rfl (by unfold w32; omega) rfl ?_
        refine ev_goto f40_2 ?_
        exact ih.1 _ _ g6727 k6727 (by omega) (by omega) (by omega) (by omega) (by omega)
    · intro h1 x3 g1 k1 b0 b1 b2 b3 hm
      have wr0 := g1.qb q0
      have zr0 := q0.1
      refine ev_iload_n rfl ?_
      refine ev_aload_n rfl ?_
      obtain ⟨v6728, ev6728, lv6728, uv6728⟩ := g1.q0 q0
      refine g_qgetv (v := v6728) g1 q0 ft4_0 ev6728 ?_
      refine ev_icmpge f40_60 (fun c6729 => ?_) (fun c6729 => ?_)
      · exact ev_ret rfl (by decide) (by decide) ⟨rfl, g1, k1⟩
      · refine ev_aload_n rfl ?_
        refine ev_iload_n rfl ?_
        refine ev_iload_n rfl ?_
        refine ev_bipush ?_
        refine g_idivP (c := 32) rfl (by decide) (by omega) (by omega) (fun v6730 ev6730 lv6730 uv6730 => ?_)
        refine ev_iadd (r := (a2 + v6730)) (by unfold w32; omega) ?_
        refine ev_dup2 (by decide) (by decide) ?_
        refine g_lald g1 ad40 rt40 (by omega) (by omega) (fun v6731 ev6731 lv6731 uv6731 => ?_)
        refine ev_aload_n rfl ?_
        refine g_qgetp g1 q0 (c := 10) (by decide) (by decide) ft4_10 ?_
        refine ev_iload_n rfl ?_
        refine g_qiald g1 q0 (c := 10) (by decide) (by decide) (by decide) (by omega) (by show x3 < m0; omega) rfl (fun v6732 ev6732 lv6732 uv6732 => ?_)
        refine ev_i2l ?_
        refine ev_iconst ?_
        refine ev_iload_n rfl ?_
        refine ev_bipush ?_
        refine g_iremP (c := 32) rfl (by decide) (by omega) (fun v6733 ev6733 lv6733 uv6733 wv6733 => ?_)
        refine ev_imul (r := (2 * v6733)) (by unfold w32; omega) ?_
        refine g_lshlG (fun v6734 ev6734 lv6734 uv6734 => ?_)
        refine g_lorG (fun v6735 ev6735 lv6735 uv6735 => ?_)
        refine g_last g1 ad40 rt40 (fun _ => rfl) (by omega) (by omega) (by omega) (by omega) (fun h6736 e6736 g6736 => ?_)
        have k6736 := k1.wr e6736 rfl
        refine ev_iinc (w := (x3 + 1)) (L' := [(2, (r0 : Int)), (2, 40), (0, a2), (0, (x3 + 1))]) rfl (by unfold w32; omega) rfl ?_
        refine ev_goto f40_21 ?_
        exact ih.2 _ _ g6736 k6736 (by omega) (by omega) (by omega) (by omega) (by omega)
set_option maxHeartbeats 4000000 in
theorem s40 {G : GH} {h : JH} (g : Gd G h) {r0 : Nat} {m0 : Int} (q0 : IsQ G r0 m0) {a2 : Int} (la2 : 0 ≤ a2) (ua2 : a2 ≤ 392) : jOk 1 0 0 40 [(2, (r0 : Int)), (2, 40), (0, a2)] h (PV G [(40, 0)] h) := by
  refine ⟨by decide, by rw [ml40]; exact Nat.le_of_ble_eq_true rfl, ?_⟩
  rw [ml40, pp40]
  show jEv _ none _ c40_0 0 0 _ (c40_0, [(2, (r0 : Int)), (2, 40), (0, a2), (9, 0)], [], h, 0, 0)
  have k0 := Kp.rf [(40, 0)] h
  have wr0 := g.qb q0
  have zr0 := q0.1
  refine ev_iconst ?_
  refine ev_istore_n (L' := [(2, (r0 : Int)), (2, 40), (0, a2), (0, 0)]) (Nat.le_of_ble_eq_true rfl) rfl ?_
  exact (s40_l q0 la2 ua2 303).1 _ _ g k0 (by omega) (by omega) (by omega) (by omega) (by omega)
/-! 41 judgePacked -/
set_option maxHeartbeats 4000000 in
theorem s41_l {G : GH} {h : JH} {r0 : Nat} {m0 : Int} (q0 : IsQ G r0 m0) {a2 : Int} (la2 : 0 ≤ a2) (ua2 : a2 ≤ 392) : ∀ N : Nat, (∀ (h1 : JH) (x3 : Int), Gd G h1 → Kp [(1000000, 0)] h h1 → 0 ≤ a2 → a2 ≤ 392 → 0 ≤ x3 → x3 ≤ 100 → ((-x3) + 100) < N → jEv (jOk 0) none (fun _ => 0) c41_0 0 0 (PV G [(1000000, 0)] h) (c41_2, [(2, (r0 : Int)), (2, 40), (0, a2), (0, x3)], [], h1, 0, 0)) := by
  intro N
  induction N with
  | zero => exact fun h1 x3 g1 k1 b0 b1 b2 b3 hm => absurd hm (by omega)
  | succ N ih =>
    show _
    intro h1 x3 g1 k1 b0 b1 b2 b3 hm
    have wr0 := g1.qb q0
    have zr0 := q0.1
    refine ev_iload_n rfl ?_
    refine ev_aload_n rfl ?_
    obtain ⟨v7047, ev7047, lv7047, uv7047⟩ := g1.q0 q0
    refine g_qgetv (v := v7047) g1 q0 ft4_0 ev7047 ?_
    refine ev_icmpge f41_42 (fun c7048 => ?_) (fun c7048 => ?_)
    · exact ev_ret rfl (by decide) (by decide) ⟨rfl, g1, k1⟩
    · refine ev_aload_n rfl ?_
      refine g_qgetp g1 q0 (c := 9) (by decide) (by decide) ft4_9 ?_
      refine ev_iload_n rfl ?_
      refine ev_aload_n rfl ?_
      refine ev_iload_n rfl ?_
      refine ev_iload_n rfl ?_
      refine ev_bipush ?_
      refine g_idivP (c := 32) rfl (by decide) (by omega) (by omega) (fun v7049 ev7049 lv7049 uv7049 => ?_)
      refine ev_iadd (r := (a2 + v7049)) (by unfold w32; omega) ?_
      refine g_lald g1 ad40 rt40 (by omega) (by omega) (fun v7050 ev7050 lv7050 uv7050 => ?_)
      refine ev_iconst ?_
      refine ev_iload_n rfl ?_
      refine ev_bipush ?_
      refine g_iremP (c := 32) rfl (by decide) (by omega) (fun v7051 ev7051 lv7051 uv7051 wv7051 => ?_)
      refine ev_imul (r := (2 * v7051)) (by unfold w32; omega) ?_
      refine g_lushrG (fun v7052 ev7052 lv7052 uv7052 => ?_)
      refine ev_ldc2_w ?_
      refine g_landB (b := 3) rfl (by decide) (fun v7053 ev7053 lv7053 uv7053 => ?_)
      refine ev_l2i (r := v7053) (by unfold w32; omega) ?_
      refine g_qiast g1 q0 (c := 9) (by decide) (by decide) (by decide) (by omega) (by show x3 < m0; omega) rfl (by omega) (by omega) (fun h7054 e7054 g7054 => ?_)
      have k7054 := k1.wr e7054 (inW_dyn rfl (by have := q0.1; omega))
      refine ev_iinc (w := (x3 + 1)) (L' := [(2, (r0 : Int)), (2, 40), (0, a2), (0, (x3 + 1))]) rfl (by unfold w32; omega) rfl ?_
      refine ev_goto f41_2 ?_
      exact ih _ _ g7054 k7054 (by omega) (by omega) (by omega) (by omega) (by omega)
set_option maxHeartbeats 4000000 in
theorem s41 {G : GH} {h : JH} (g : Gd G h) {r0 : Nat} {m0 : Int} (q0 : IsQ G r0 m0) {a2 : Int} (la2 : 0 ≤ a2) (ua2 : a2 ≤ 392) : jOk 1 0 0 41 [(2, (r0 : Int)), (2, 40), (0, a2)] h (PV G [(1000000, 0)] h) := by
  refine ⟨by decide, by rw [ml41]; exact Nat.le_of_ble_eq_true rfl, ?_⟩
  rw [ml41, pp41]
  show jEv _ none _ c41_0 0 0 _ (c41_0, [(2, (r0 : Int)), (2, 40), (0, a2), (9, 0)], [], h, 0, 0)
  have k0 := Kp.rf [(1000000, 0)] h
  have wr0 := g.qb q0
  have zr0 := q0.1
  refine ev_iconst ?_
  refine ev_istore_n (L' := [(2, (r0 : Int)), (2, 40), (0, a2), (0, 0)]) (Nat.le_of_ble_eq_true rfl) rfl ?_
  exact (s41_l q0 la2 ua2 202) _ _ g k0 (by omega) (by omega) (by omega) (by omega) (by omega)
/-! 42 price -/
set_option maxHeartbeats 4000000 in
theorem s42_l {G : GH} {h : JH} {r0 : Nat} {m0 : Int} (q0 : IsQ G r0 m0) : ∀ N : Nat, (∀ (h1 : JH) (x1 : Int) (j2 : AV), Gd G h1 → Kp [(1000000, 0)] h h1 → 0 ≤ x1 → x1 ≤ 100 → ((-10) * x1 + 1005) < N → jEv (jOk 1) none (fun _ => 0) c42_0 0 0 (PV G [(1000000, 0)] h) (c42_9, [(2, (r0 : Int)), (0, x1), j2], [], h1, 0, 0)) ∧ (∀ (h1 : JH) (x1 x2 : Int), Gd G h1 → Kp [(1000000, 0)] h h1 → 0 ≤ x1 → x1 ≤ 99 → x1 ≤ m0 - 1 → 0 ≤ x2 → x2 ≤ 4 → ((-10) * x1 + (-x2) + 1004) < N → jEv (jOk 1) none (fun _ => 0) c42_0 0 0 (PV G [(1000000, 0)] h) (c42_19, [(2, (r0 : Int)), (0, x1), (0, x2)], [], h1, 0, 0)) := by
  intro N
  induction N with
  | zero => exact ⟨fun h1 x1 j2 g1 k1 b0 b1 hm => absurd hm (by omega), fun h1 x1 x2 g1 k1 b0 b1 b2 b3 b4 hm => absurd hm (by omega)⟩
  | succ N ih =>
    refine ⟨?_, ?_⟩
    · intro h1 x1 j2 g1 k1 b0 b1 hm
      have wr0 := g1.qb q0
      have zr0 := q0.1
      refine ev_iload_n rfl ?_
      refine ev_aload_n rfl ?_
      obtain ⟨v7401, ev7401, lv7401, uv7401⟩ := g1.q0 q0
      refine g_qgetv (v := v7401) g1 q0 ft4_0 ev7401 ?_
      refine ev_icmpge f42_65 (fun c7402 => ?_) (fun c7402 => ?_)
      · exact ev_ret rfl (by decide) (by decide) ⟨rfl, g1, k1⟩
      · refine ev_iconst ?_
        refine ev_istore_n (L' := [(2, (r0 : Int)), (0, x1), (0, 0)]) (Nat.le_of_ble_eq_true rfl) rfl ?_
        exact ih.2 _ _ _ g1 k1 (by omega) (by omega) (by omega) (by omega) (by omega) (by omega)
    · intro h1 x1 x2 g1 k1 b0 b1 b2 b3 b4 hm
      have wr0 := g1.qb q0
      have zr0 := q0.1
      refine ev_iload_n rfl ?_
      refine ev_aload_n rfl ?_
      refine g_qgetp g1 q0 (c := 4) (by decide) (by decide) ft4_4 ?_
      refine ev_iload_n rfl ?_
      refine g_qiald g1 q0 (c := 4) (by decide) (by decide) (by decide) (by omega) (by show x1 < m0; omega) rfl (fun v7403 ev7403 lv7403 uv7403 => ?_)
      refine ev_icmpge f42_59 (fun c7404 => ?_) (fun c7404 => ?_)
      · refine ev_iinc (w := (x1 + 1)) (L' := [(2, (r0 : Int)), (0, (x1 + 1)), (0, x2)]) rfl (by unfold w32; omega) rfl ?_
        refine ev_goto f42_9 ?_
        exact ih.1 _ _ _ g1 k1 (by omega) (by omega) (by omega)
      · refine ev_aload_n rfl ?_
        refine g_qgetp g1 q0 (c := 11) (by decide) (by decide) ft4_11 ?_
        refine ev_aload_n rfl ?_
        refine ev_iload_n rfl ?_
        refine ev_iload_n rfl ?_
        refine ev_in (d := 0) (a := 0) (b := 0) (cd' := c30_0) (m := 3) (L0 := [(2, (r0 : Int)), (0, x1), (0, x2)]) (jcall_v (A := [(0, x2), (0, x1)]) (S' := [(2, ((r0 + 10 : Nat) : Int))]) (r := r0) rfl (g1.qlt q0) (g1.qtg q0) (Nat.le_of_ble_eq_true rfl)) (by decide) ml30 pp30 (Nat.le_of_ble_eq_true rfl) rfl (by decide) (by decide) ?_
        refine ev_aload_n rfl ?_
        refine g_qgetp g1 q0 (c := 5) (by decide) (by decide) ft4_5 ?_
        refine ev_iconst ?_
        refine ev_iload_n rfl ?_
        refine ev_imul (r := (4 * x1)) (by unfold w32; omega) ?_
        refine ev_iload_n rfl ?_
        refine ev_iadd (r := (4 * x1 + x2)) (by unfold w32; omega) ?_
        refine g_qiald g1 q0 (c := 5) (by decide) (by decide) (by decide) (by omega) (by show (4 * x1 + x2) < 4 * m0; omega) rfl (fun v7405 ev7405 lv7405 uv7405 => ?_)
        refine ev_ret rfl (by decide) (by decide) ?_
        show jEv _ _ _ _ _ _ _ (_, [(2, (r0 : Int)), (0, x1), (0, x2)], [(0, v7405), (2, ((r0 + 10 : Nat) : Int))], _, _, _)
        refine ev_aload_n rfl ?_
        refine g_qgetp g1 q0 (c := 11) (by decide) (by decide) ft4_11 ?_
        refine ev_iload_n rfl ?_
        refine g_qiald g1 q0 (c := 11) (by decide) (by decide) (by decide) (by omega) (by show x1 < m0; omega) rfl (fun v7406 ev7406 lv7406 uv7406 => ?_)
        refine ev_aload_n rfl ?_
        refine ev_iload_n rfl ?_
        refine ev_iload_n rfl ?_
        refine ev_in (d := 0) (a := 0) (b := 0) (cd' := c31_0) (m := 3) (L0 := [(2, (r0 : Int)), (0, x1), (0, x2)]) (jcall_v (A := [(0, x2), (0, x1)]) (S' := [(0, v7406), (0, v7405), (2, ((r0 + 10 : Nat) : Int))]) (r := r0) rfl (g1.qlt q0) (g1.qtg q0) (Nat.le_of_ble_eq_true rfl)) (by decide) ml31 pp31 (Nat.le_of_ble_eq_true rfl) rfl (by decide) (by decide) ?_
        refine ev_aload_n rfl ?_
        refine g_qgetp g1 q0 (c := 6) (by decide) (by decide) ft4_6 ?_
        refine ev_iconst ?_
        refine ev_iload_n rfl ?_
        refine ev_imul (r := (4 * x1)) (by unfold w32; omega) ?_
        refine ev_iload_n rfl ?_
        refine ev_iadd (r := (4 * x1 + x2)) (by unfold w32; omega) ?_
        refine g_qiald g1 q0 (c := 6) (by decide) (by decide) (by decide) (by omega) (by show (4 * x1 + x2) < 4 * m0; omega) rfl (fun v7407 ev7407 lv7407 uv7407 => ?_)
        refine ev_ret rfl (by decide) (by decide) ?_
        show jEv _ _ _ _ _ _ _ (_, [(2, (r0 : Int)), (0, x1), (0, x2)], [(0, v7407), (0, v7406), (0, v7405), (2, ((r0 + 10 : Nat) : Int))], _, _, _)
        refine g_iaddG (fun v7408 ev7408 lv7408 uv7408 => ?_)
        refine g_qiast g1 q0 (c := 11) (by decide) (by decide) (by decide) (by omega) (by show v7405 < m0; omega) rfl (by omega) (by omega) (fun h7409 e7409 g7409 => ?_)
        have k7409 := k1.wr e7409 (inW_dyn rfl (by have := q0.1; omega))
        refine ev_iinc (w := (x2 + 1)) (L' := [(2, (r0 : Int)), (0, x1), (0, (x2 + 1))]) rfl (by unfold w32; omega) rfl ?_
        refine ev_goto f42_19 ?_
        exact ih.2 _ _ _ g7409 k7409 (by omega) (by omega) (by omega) (by omega) (by omega) (by omega)
set_option maxHeartbeats 4000000 in
theorem s42 {G : GH} {h : JH} (g : Gd G h) {r0 : Nat} {m0 : Int} (q0 : IsQ G r0 m0) : jOk 2 0 0 42 [(2, (r0 : Int))] h (PV G [(1000000, 0)] h) := by
  refine ⟨by decide, by rw [ml42]; exact Nat.le_of_ble_eq_true rfl, ?_⟩
  rw [ml42, pp42]
  show jEv _ none _ c42_0 0 0 _ (c42_0, [(2, (r0 : Int)), (9, 0), (9, 0)], [], h, 0, 0)
  have k0 := Kp.rf [(1000000, 0)] h
  have wr0 := g.qb q0
  have zr0 := q0.1
  refine ev_aload_n rfl ?_
  refine g_qgetp g q0 (c := 11) (by decide) (by decide) ft4_11 ?_
  refine ev_iconst ?_
  refine ev_iconst ?_
  refine g_qiast g q0 (c := 11) (by decide) (by decide) (by decide) (by omega) (by show 0 < m0; omega) rfl (by omega) (by omega) (fun h7410 e7410 g7410 => ?_)
  have k7410 := k0.wr e7410 (inW_dyn rfl (by have := q0.1; omega))
  refine ev_iconst ?_
  refine ev_istore_n (L' := [(2, (r0 : Int)), (0, 0), (9, 0)]) (Nat.le_of_ble_eq_true rfl) rfl ?_
  exact (s42_l q0 2020).1 _ _ _ g7410 k7410 (by omega) (by omega) (by omega)
/-! 43 weighEnds -/
set_option maxHeartbeats 4000000 in
theorem s43_l {G : GH} {h : JH} {r0 : Nat} {m0 : Int} (q0 : IsQ G r0 m0) {f2 : Nat} (q2 : IsF G f2) {a3 : Int} (la3 : (-2147483648) ≤ a3) (ua3 : a3 ≤ 2147483647) : ∀ N : Nat, (∀ (h1 : JH) (x4 x5 : Int) (j6 : AV), Gd G h1 → Kp [(1000000, 0)] h h1 → (-2147483648) ≤ a3 → a3 ≤ 2147483647 → 0 ≤ x4 → x4 ≤ 1 → x4 ≤ m0 → 0 ≤ x5 → x5 ≤ 100 → ((-x5) + 100) < N → jEv (jOk 3) none (fun _ => 0) c43_0 0 0 (PV G [(1000000, 0)] h) (c43_13, [(2, (r0 : Int)), (2, 1), (2, (f2 : Int)), (0, a3), (0, x4), (0, x5), j6, (9, 0)], [], h1, 0, 0)) := by
  intro N
  induction N with
  | zero => exact fun h1 x4 x5 j6 g1 k1 b0 b1 b2 b3 b4 b5 b6 hm => absurd hm (by omega)
  | succ N ih =>
    show _
    intro h1 x4 x5 j6 g1 k1 b0 b1 b2 b3 b4 b5 b6 hm
    have wr0 := g1.qb q0
    have zr0 := q0.1
    refine ev_iload rfl ?_
    refine ev_aload_n rfl ?_
    obtain ⟨v9484, ev9484, lv9484, uv9484⟩ := g1.q0 q0
    refine g_qgetv (v := v9484) g1 q0 ft4_0 ev9484 ?_
    refine ev_icmpge f43_91 (fun c9485 => ?_) (fun c9485 => ?_)
    · exact ev_ret rfl (by decide) (by decide) ⟨rfl, g1, k1⟩
    · refine ev_aload_n rfl ?_
      refine g_qgetp g1 q0 (c := 2) (by decide) (by decide) ft4_2 ?_
      refine ev_iload rfl ?_
      refine g_qiald g1 q0 (c := 2) (by decide) (by decide) (by decide) (by omega) (by show x5 < m0; omega) rfl (fun v9486 ev9486 lv9486 uv9486 => ?_)
      refine ev_ifne f43_85 (fun c9487 => ?_) (fun c9487 => ?_)
      · refine ev_iinc (w := (x5 + 1)) (L' := [(2, (r0 : Int)), (2, 1), (2, (f2 : Int)), (0, a3), (0, x4), (0, (x5 + 1)), j6, (9, 0)]) rfl (by unfold w32; omega) rfl ?_
        refine ev_goto f43_13 ?_
        exact ih _ _ _ _ g1 k1 (by omega) (by omega) (by omega) (by omega) (by omega) (by omega) (by omega) (by omega)
      · refine ev_iload rfl ?_
        refine ev_ifeq f43_41 (fun c9488 => ?_) (fun c9488 => ?_)
        · refine ev_aload_n rfl ?_
          refine ev_aload_n rfl ?_
          refine g_qgetp g1 q0 (c := 8) (by decide) (by decide) ft4_8 ?_
          refine ev_iload rfl ?_
          refine g_qiald g1 q0 (c := 8) (by decide) (by decide) (by decide) (by omega) (by show x5 < m0; omega) rfl (fun v9489 ev9489 lv9489 uv9489 => ?_)
          refine ev_iload_n rfl ?_
          refine ev_in (d := 2) (a := 0) (b := 0) (cd' := c163_0) (m := 3) (L0 := [(2, 1), (0, v9489), (0, a3)]) (jcall_v (A := [(0, a3), (0, v9489)]) (S' := []) (r := 1) rfl (g1.lt ad1) (g1.tg ad1) (Nat.le_of_ble_eq_true rfl)) (by decide) ml163 pp163 (Nat.le_of_ble_eq_true rfl) rfl (by decide) (by decide) ?_
          refine ev_iload_n rfl ?_
          refine ev_iload_n rfl ?_
          refine g_ixorG (fun v9490 ev9490 lv9490 uv9490 => ?_)
          refine ev_iload_n rfl ?_
          refine ev_in (d := 1) (a := 0) (b := 0) (cd' := c162_0) (m := 1) (L0 := [(0, v9489)]) (jcall_s (A := [(0, v9489)]) (S' := [(0, v9490)]) (by decide) rfl (Nat.le_of_ble_eq_true rfl)) (by decide) ml162 pp162 (Nat.le_of_ble_eq_true rfl) rfl (by decide) (by decide) ?_
          refine ev_iload_n rfl ?_
          refine ev_iload_n rfl ?_
          refine ev_iconst ?_
          refine g_ishrG (fun v9491 ev9491 lv9491 uv9491 => ?_)
          refine g_iorG (fun v9492 ev9492 lv9492 uv9492 => ?_)
          refine ev_bipush ?_
          refine g_iandB (b := 85) (by omega) (by omega) (by decide) (fun v9493 ev9493 lv9493 uv9493 => ?_)
          refine ev_iconst ?_
          refine ev_imul (r := (3 * v9493)) (by unfold w32; omega) ?_
          refine ev_ret rfl (by decide) (by decide) ?_
          show jEv _ _ _ _ _ _ _ (_, [(2, 1), (0, v9489), (0, a3)], [(0, (3 * v9493)), (0, v9490)], _, _, _)
          refine g_iandB (b := 255) (by omega) (by omega) (by decide) (fun v9494 ev9494 lv9494 uv9494 => ?_)
          refine ev_iload_n rfl ?_
          refine ev_in (d := 1) (a := 0) (b := 0) (cd' := c162_0) (m := 1) (L0 := [(0, a3)]) (jcall_s (A := [(0, a3)]) (S' := [(0, v9494)]) (by decide) rfl (Nat.le_of_ble_eq_true rfl)) (by decide) ml162 pp162 (Nat.le_of_ble_eq_true rfl) rfl (by decide) (by decide) ?_
          refine ev_iload_n rfl ?_
          refine ev_iload_n rfl ?_
          refine ev_iconst ?_
          refine g_ishrG (fun v9495 ev9495 lv9495 uv9495 => ?_)
          refine g_iorG (fun v9496 ev9496 lv9496 uv9496 => ?_)
          refine ev_bipush ?_
          refine g_iandB (b := 85) (by omega) (by omega) (by decide) (fun v9497 ev9497 lv9497 uv9497 => ?_)
          refine ev_iconst ?_
          refine ev_imul (r := (3 * v9497)) (by unfold w32; omega) ?_
          refine ev_ret rfl (by decide) (by decide) ?_
          show jEv _ _ _ _ _ _ _ (_, [(2, 1), (0, v9489), (0, a3)], [(0, (3 * v9497)), (0, v9494)], _, _, _)
          refine g_iandB (b := 255) (by omega) (by omega) (by decide) (fun v9498 ev9498 lv9498 uv9498 => ?_)
          refine ev_ifeq f163_20 (fun c9499 => ?_) (fun c9499 => ?_)
          · refine ev_aload_n rfl ?_
            refine ev_iload_n rfl ?_
            refine ev_iload_n rfl ?_
            refine g_iorG (fun v9500 ev9500 lv9500 uv9500 => ?_)
            refine ev_in (d := 1) (a := 0) (b := 0) (cd' := c161_0) (m := 2) (L0 := [(2, 1), (0, v9500)]) (jcall_v (A := [(0, v9500)]) (S' := []) (r := 1) rfl (g1.lt ad1) (g1.tg ad1) (Nat.le_of_ble_eq_true rfl)) (by decide) ml161 pp161 (Nat.le_of_ble_eq_true rfl) rfl (by decide) (by decide) ?_
            refine ev_iload_n rfl ?_
            refine ev_iflt f161_12 (fun c9501 => ?_) (fun c9501 => ?_)
            · refine ev_lconst ?_
              refine ev_goto f161_22 ?_
              refine ev_ret rfl (by decide) (by decide) ?_
              show jEv _ _ _ _ _ _ _ (_, [(2, 1), (0, v9489), (0, a3)], [(1, 0)], _, _, _)
              refine ev_ret rfl (by decide) (by decide) ?_
              show jEv _ _ _ _ _ _ _ (_, [(2, (r0 : Int)), (2, 1), (2, (f2 : Int)), (0, a3), (0, x4), (0, x5), j6, (9, 0)], [(1, 0)], _, _, _)
              refine ev_lstore (L' := [(2, (r0 : Int)), (2, 1), (2, (f2 : Int)), (0, a3), (0, x4), (0, x5), (1, 0), (9, 0)]) (Nat.le_of_ble_eq_true rfl) rfl ?_
              refine ev_aload_n rfl ?_
              refine g_qgetp g1 q0 (c := 12) (by decide) (by decide) ft4_12 ?_
              refine ev_iload rfl ?_
              refine ev_lload rfl ?_
              refine ev_aload_n rfl ?_
              refine ev_aload_n rfl ?_
              refine g_qgetp g1 q0 (c := 3) (by decide) (by decide) ft4_3 ?_
              refine ev_iload rfl ?_
              refine g_qiald g1 q0 (c := 3) (by decide) (by decide) (by decide) (by omega) (by show x5 < m0; omega) rfl (fun v9502 ev9502 lv9502 uv9502 => ?_)
              refine ev_aload_n rfl ?_
              refine g_qgetp g1 q0 (c := 11) (by decide) (by decide) ft4_11 ?_
              refine ev_iload rfl ?_
              refine g_qiald g1 q0 (c := 11) (by decide) (by decide) (by decide) (by omega) (by show x5 < m0; omega) rfl (fun v9503 ev9503 lv9503 uv9503 => ?_)
              refine g_isubG (fun v9504 ev9504 lv9504 uv9504 => ?_)
              refine ev_callF (A := [(0, v9504)]) (S' := [(1, 0), (0, x5), (2, ((r0 + 11 : Nat) : Int))]) (r := f2) rfl (g1.flt q2) (g1.ffam q2) (Nat.le_of_ble_eq_true rfl) (famL (by decide) (fam_measure g1 q2 (by omega) (by omega))) (by decide) (by decide) (fun w9505 h9505 q9505 => ?_)
              obtain ⟨v9506, rfl, lv9506, uv9506, g9505, kk9505⟩ := q9505
              have k9505 := k1.tr kk9505 (by decide)
              show jEv _ _ _ _ _ _ _ (_, [(2, (r0 : Int)), (2, 1), (2, (f2 : Int)), (0, a3), (0, x4), (0, x5), (1, 0), (9, 0)], [(0, v9506), (1, 0), (0, x5), (2, ((r0 + 11 : Nat) : Int))], _, _, _)
              refine ev_i2l ?_
              refine ev_lmul (r := 0) (by unfold w64; omega) ?_
              refine g_qlast g9505 q0 (c := 12) (by decide) (by decide) (by decide) (by omega) (by show x5 < m0; omega) rfl (by omega) (by omega) (fun h9507 e9507 g9507 => ?_)
              have k9507 := k9505.wr e9507 (inW_dyn rfl (by have := q0.1; omega))
              refine ev_iinc (w := (x5 + 1)) (L' := [(2, (r0 : Int)), (2, 1), (2, (f2 : Int)), (0, a3), (0, x4), (0, (x5 + 1)), (1, 0), (9, 0)]) rfl (by unfold w32; omega) rfl ?_
              refine ev_goto f43_13 ?_
              exact ih _ _ _ _ g9507 k9507 (by omega) (by omega) (by omega) (by omega) (by omega) (by omega) (by omega) (by omega)
            · refine ev_iload_n rfl ?_
              refine ev_aload_n rfl ?_
              refine ev_in (d := 0) (a := 0) (b := 0) (cd' := c157_0) (m := 1) (L0 := [(2, 1)]) (jcall_v (A := []) (S' := [(0, v9500)]) (r := 1) rfl (g1.lt ad1) (g1.tg ad1) (Nat.le_of_ble_eq_true rfl)) (by decide) ml157 pp157 (Nat.le_of_ble_eq_true rfl) rfl (by decide) (by decide) ?_
              refine ev_iconst ?_
              refine ev_iconst ?_
              refine ev_aload_n rfl ?_
              obtain ⟨v9508, ev9508, lv9508, uv9508⟩ := g1.rd ad1 (show 0 < 8 by decide) rf1_0
              refine g_getv (r := 1) (v := v9508) g1 ad1 (by decide) ft10_0 ev9508 ?_
              refine ev_imul (r := (2 * v9508)) (by unfold w32; omega) ?_
              refine g_ishlB (a' := 1) (a := 1) (b := 8) (hi := 256) (by omega) (by omega) (by omega) (by omega) (by decide) (by decide) (fun v9509 ev9509 lv9509 uv9509 => ?_)
              refine ev_ret rfl (by decide) (by decide) ?_
              show jEv _ _ _ _ _ _ _ (_, [(2, 1), (0, v9500)], [(0, v9509), (0, v9500)], _, _, _)
              refine ev_icmplt f161_16 (fun c9510 => ?_) (fun c9510 => ?_)
              · refine ev_aload_n rfl ?_
                refine g_getp (r := 1) (c := 6) g1 ad1 (by decide) (by decide) rf1_7 ft10_7 ?_
                refine ev_iload_n rfl ?_
                refine g_lald g1 ad6 rt6 (by omega) (by omega) (fun v9511 ev9511 lv9511 uv9511 => ?_)
                refine ev_ret rfl (by decide) (by decide) ?_
                show jEv _ _ _ _ _ _ _ (_, [(2, 1), (0, v9489), (0, a3)], [(1, v9511)], _, _, _)
                refine ev_ret rfl (by decide) (by decide) ?_
                show jEv _ _ _ _ _ _ _ (_, [(2, (r0 : Int)), (2, 1), (2, (f2 : Int)), (0, a3), (0, x4), (0, x5), j6, (9, 0)], [(1, v9511)], _, _, _)
                refine ev_lstore (L' := [(2, (r0 : Int)), (2, 1), (2, (f2 : Int)), (0, a3), (0, x4), (0, x5), (1, v9511), (9, 0)]) (Nat.le_of_ble_eq_true rfl) rfl ?_
                refine ev_aload_n rfl ?_
                refine g_qgetp g1 q0 (c := 12) (by decide) (by decide) ft4_12 ?_
                refine ev_iload rfl ?_
                refine ev_lload rfl ?_
                refine ev_aload_n rfl ?_
                refine ev_aload_n rfl ?_
                refine g_qgetp g1 q0 (c := 3) (by decide) (by decide) ft4_3 ?_
                refine ev_iload rfl ?_
                refine g_qiald g1 q0 (c := 3) (by decide) (by decide) (by decide) (by omega) (by show x5 < m0; omega) rfl (fun v9512 ev9512 lv9512 uv9512 => ?_)
                refine ev_aload_n rfl ?_
                refine g_qgetp g1 q0 (c := 11) (by decide) (by decide) ft4_11 ?_
                refine ev_iload rfl ?_
                refine g_qiald g1 q0 (c := 11) (by decide) (by decide) (by decide) (by omega) (by show x5 < m0; omega) rfl (fun v9513 ev9513 lv9513 uv9513 => ?_)
                refine g_isubG (fun v9514 ev9514 lv9514 uv9514 => ?_)
                refine ev_callF (A := [(0, v9514)]) (S' := [(1, v9511), (0, x5), (2, ((r0 + 11 : Nat) : Int))]) (r := f2) rfl (g1.flt q2) (g1.ffam q2) (Nat.le_of_ble_eq_true rfl) (famL (by decide) (fam_measure g1 q2 (by omega) (by omega))) (by decide) (by decide) (fun w9515 h9515 q9515 => ?_)
                obtain ⟨v9516, rfl, lv9516, uv9516, g9515, kk9515⟩ := q9515
                have k9515 := k1.tr kk9515 (by decide)
                show jEv _ _ _ _ _ _ _ (_, [(2, (r0 : Int)), (2, 1), (2, (f2 : Int)), (0, a3), (0, x4), (0, x5), (1, v9511), (9, 0)], [(0, v9516), (1, v9511), (0, x5), (2, ((r0 + 11 : Nat) : Int))], _, _, _)
                refine ev_i2l ?_
                refine g_lmulG (fun v9517 ev9517 lv9517 uv9517 => ?_)
                refine g_qlast g9515 q0 (c := 12) (by decide) (by decide) (by decide) (by omega) (by show x5 < m0; omega) rfl (by omega) (by omega) (fun h9518 e9518 g9518 => ?_)
                have k9518 := k9515.wr e9518 (inW_dyn rfl (by have := q0.1; omega))
                refine ev_iinc (w := (x5 + 1)) (L' := [(2, (r0 : Int)), (2, 1), (2, (f2 : Int)), (0, a3), (0, x4), (0, (x5 + 1)), (1, v9511), (9, 0)]) rfl (by unfold w32; omega) rfl ?_
                refine ev_goto f43_13 ?_
                exact ih _ _ _ _ g9518 k9518 (by omega) (by omega) (by omega) (by omega) (by omega) (by omega) (by omega) (by omega)
              · refine ev_lconst ?_
                refine ev_goto f161_22 ?_
                refine ev_ret rfl (by decide) (by decide) ?_
                show jEv _ _ _ _ _ _ _ (_, [(2, 1), (0, v9489), (0, a3)], [(1, 0)], _, _, _)
                refine ev_ret rfl (by decide) (by decide) ?_
                show jEv _ _ _ _ _ _ _ (_, [(2, (r0 : Int)), (2, 1), (2, (f2 : Int)), (0, a3), (0, x4), (0, x5), j6, (9, 0)], [(1, 0)], _, _, _)
                refine ev_lstore (L' := [(2, (r0 : Int)), (2, 1), (2, (f2 : Int)), (0, a3), (0, x4), (0, x5), (1, 0), (9, 0)]) (Nat.le_of_ble_eq_true rfl) rfl ?_
                refine ev_aload_n rfl ?_
                refine g_qgetp g1 q0 (c := 12) (by decide) (by decide) ft4_12 ?_
                refine ev_iload rfl ?_
                refine ev_lload rfl ?_
                refine ev_aload_n rfl ?_
                refine ev_aload_n rfl ?_
                refine g_qgetp g1 q0 (c := 3) (by decide) (by decide) ft4_3 ?_
                refine ev_iload rfl ?_
                refine g_qiald g1 q0 (c := 3) (by decide) (by decide) (by decide) (by omega) (by show x5 < m0; omega) rfl (fun v9519 ev9519 lv9519 uv9519 => ?_)
                refine ev_aload_n rfl ?_
                refine g_qgetp g1 q0 (c := 11) (by decide) (by decide) ft4_11 ?_
                refine ev_iload rfl ?_
                refine g_qiald g1 q0 (c := 11) (by decide) (by decide) (by decide) (by omega) (by show x5 < m0; omega) rfl (fun v9520 ev9520 lv9520 uv9520 => ?_)
                refine g_isubG (fun v9521 ev9521 lv9521 uv9521 => ?_)
                refine ev_callF (A := [(0, v9521)]) (S' := [(1, 0), (0, x5), (2, ((r0 + 11 : Nat) : Int))]) (r := f2) rfl (g1.flt q2) (g1.ffam q2) (Nat.le_of_ble_eq_true rfl) (famL (by decide) (fam_measure g1 q2 (by omega) (by omega))) (by decide) (by decide) (fun w9522 h9522 q9522 => ?_)
                obtain ⟨v9523, rfl, lv9523, uv9523, g9522, kk9522⟩ := q9522
                have k9522 := k1.tr kk9522 (by decide)
                show jEv _ _ _ _ _ _ _ (_, [(2, (r0 : Int)), (2, 1), (2, (f2 : Int)), (0, a3), (0, x4), (0, x5), (1, 0), (9, 0)], [(0, v9523), (1, 0), (0, x5), (2, ((r0 + 11 : Nat) : Int))], _, _, _)
                refine ev_i2l ?_
                refine ev_lmul (r := 0) (by unfold w64; omega) ?_
                refine g_qlast g9522 q0 (c := 12) (by decide) (by decide) (by decide) (by omega) (by show x5 < m0; omega) rfl (by omega) (by omega) (fun h9524 e9524 g9524 => ?_)
                have k9524 := k9522.wr e9524 (inW_dyn rfl (by have := q0.1; omega))
                refine ev_iinc (w := (x5 + 1)) (L' := [(2, (r0 : Int)), (2, 1), (2, (f2 : Int)), (0, a3), (0, x4), (0, (x5 + 1)), (1, 0), (9, 0)]) rfl (by unfold w32; omega) rfl ?_
                refine ev_goto f43_13 ?_
                exact ih _ _ _ _ g9524 k9524 (by omega) (by omega) (by omega) (by omega) (by omega) (by omega) (by omega) (by omega)
          · refine ev_lconst ?_
            refine ev_goto f163_27 ?_
            refine ev_ret rfl (by decide) (by decide) ?_
            show jEv _ _ _ _ _ _ _ (_, [(2, (r0 : Int)), (2, 1), (2, (f2 : Int)), (0, a3), (0, x4), (0, x5), j6, (9, 0)], [(1, 0)], _, _, _)
            refine ev_lstore (L' := [(2, (r0 : Int)), (2, 1), (2, (f2 : Int)), (0, a3), (0, x4), (0, x5), (1, 0), (9, 0)]) (Nat.le_of_ble_eq_true rfl) rfl ?_
            refine ev_aload_n rfl ?_
            refine g_qgetp g1 q0 (c := 12) (by decide) (by decide) ft4_12 ?_
            refine ev_iload rfl ?_
            refine ev_lload rfl ?_
            refine ev_aload_n rfl ?_
            refine ev_aload_n rfl ?_
            refine g_qgetp g1 q0 (c := 3) (by decide) (by decide) ft4_3 ?_
            refine ev_iload rfl ?_
            refine g_qiald g1 q0 (c := 3) (by decide) (by decide) (by decide) (by omega) (by show x5 < m0; omega) rfl (fun v9525 ev9525 lv9525 uv9525 => ?_)
            refine ev_aload_n rfl ?_
            refine g_qgetp g1 q0 (c := 11) (by decide) (by decide) ft4_11 ?_
            refine ev_iload rfl ?_
            refine g_qiald g1 q0 (c := 11) (by decide) (by decide) (by decide) (by omega) (by show x5 < m0; omega) rfl (fun v9526 ev9526 lv9526 uv9526 => ?_)
            refine g_isubG (fun v9527 ev9527 lv9527 uv9527 => ?_)
            refine ev_callF (A := [(0, v9527)]) (S' := [(1, 0), (0, x5), (2, ((r0 + 11 : Nat) : Int))]) (r := f2) rfl (g1.flt q2) (g1.ffam q2) (Nat.le_of_ble_eq_true rfl) (famL (by decide) (fam_measure g1 q2 (by omega) (by omega))) (by decide) (by decide) (fun w9528 h9528 q9528 => ?_)
            obtain ⟨v9529, rfl, lv9529, uv9529, g9528, kk9528⟩ := q9528
            have k9528 := k1.tr kk9528 (by decide)
            show jEv _ _ _ _ _ _ _ (_, [(2, (r0 : Int)), (2, 1), (2, (f2 : Int)), (0, a3), (0, x4), (0, x5), (1, 0), (9, 0)], [(0, v9529), (1, 0), (0, x5), (2, ((r0 + 11 : Nat) : Int))], _, _, _)
            refine ev_i2l ?_
            refine ev_lmul (r := 0) (by unfold w64; omega) ?_
            refine g_qlast g9528 q0 (c := 12) (by decide) (by decide) (by decide) (by omega) (by show x5 < m0; omega) rfl (by omega) (by omega) (fun h9530 e9530 g9530 => ?_)
            have k9530 := k9528.wr e9530 (inW_dyn rfl (by have := q0.1; omega))
            refine ev_iinc (w := (x5 + 1)) (L' := [(2, (r0 : Int)), (2, 1), (2, (f2 : Int)), (0, a3), (0, x4), (0, (x5 + 1)), (1, 0), (9, 0)]) rfl (by unfold w32; omega) rfl ?_
            refine ev_goto f43_13 ?_
            exact ih _ _ _ _ g9530 k9530 (by omega) (by omega) (by omega) (by omega) (by omega) (by omega) (by omega) (by omega)
        · refine ev_lconst ?_
          refine ev_goto f43_53 ?_
          refine ev_lstore (L' := [(2, (r0 : Int)), (2, 1), (2, (f2 : Int)), (0, a3), (0, x4), (0, x5), (1, 1), (9, 0)]) (Nat.le_of_ble_eq_true rfl) rfl ?_
          refine ev_aload_n rfl ?_
          refine g_qgetp g1 q0 (c := 12) (by decide) (by decide) ft4_12 ?_
          refine ev_iload rfl ?_
          refine ev_lload rfl ?_
          refine ev_aload_n rfl ?_
          refine ev_aload_n rfl ?_
          refine g_qgetp g1 q0 (c := 3) (by decide) (by decide) ft4_3 ?_
          refine ev_iload rfl ?_
          refine g_qiald g1 q0 (c := 3) (by decide) (by decide) (by decide) (by omega) (by show x5 < m0; omega) rfl (fun v9531 ev9531 lv9531 uv9531 => ?_)
          refine ev_aload_n rfl ?_
          refine g_qgetp g1 q0 (c := 11) (by decide) (by decide) ft4_11 ?_
          refine ev_iload rfl ?_
          refine g_qiald g1 q0 (c := 11) (by decide) (by decide) (by decide) (by omega) (by show x5 < m0; omega) rfl (fun v9532 ev9532 lv9532 uv9532 => ?_)
          refine g_isubG (fun v9533 ev9533 lv9533 uv9533 => ?_)
          refine ev_callF (A := [(0, v9533)]) (S' := [(1, 1), (0, x5), (2, ((r0 + 11 : Nat) : Int))]) (r := f2) rfl (g1.flt q2) (g1.ffam q2) (Nat.le_of_ble_eq_true rfl) (famL (by decide) (fam_measure g1 q2 (by omega) (by omega))) (by decide) (by decide) (fun w9534 h9534 q9534 => ?_)
          obtain ⟨v9535, rfl, lv9535, uv9535, g9534, kk9534⟩ := q9534
          have k9534 := k1.tr kk9534 (by decide)
          show jEv _ _ _ _ _ _ _ (_, [(2, (r0 : Int)), (2, 1), (2, (f2 : Int)), (0, a3), (0, x4), (0, x5), (1, 1), (9, 0)], [(0, v9535), (1, 1), (0, x5), (2, ((r0 + 11 : Nat) : Int))], _, _, _)
          refine ev_i2l ?_
          refine ev_lmul (r := v9535) (by unfold w64; omega) ?_
          refine g_qlast g9534 q0 (c := 12) (by decide) (by decide) (by decide) (by omega) (by show x5 < m0; omega) rfl (by omega) (by omega) (fun h9536 e9536 g9536 => ?_)
          have k9536 := k9534.wr e9536 (inW_dyn rfl (by have := q0.1; omega))
          refine ev_iinc (w := (x5 + 1)) (L' := [(2, (r0 : Int)), (2, 1), (2, (f2 : Int)), (0, a3), (0, x4), (0, (x5 + 1)), (1, 1), (9, 0)]) rfl (by unfold w32; omega) rfl ?_
          refine ev_goto f43_13 ?_
          exact ih _ _ _ _ g9536 k9536 (by omega) (by omega) (by omega) (by omega) (by omega) (by omega) (by omega) (by omega)
set_option maxHeartbeats 4000000 in
theorem s43 {G : GH} {h : JH} (g : Gd G h) {r0 : Nat} {m0 : Int} (q0 : IsQ G r0 m0) {f2 : Nat} (q2 : IsF G f2) {a3 : Int} (la3 : (-2147483648) ≤ a3) (ua3 : a3 ≤ 2147483647) : jOk 4 0 0 43 [(2, (r0 : Int)), (2, 1), (2, (f2 : Int)), (0, a3)] h (PV G [(1000000, 0)] h) := by
  refine ⟨by decide, by rw [ml43]; exact Nat.le_of_ble_eq_true rfl, ?_⟩
  rw [ml43, pp43]
  show jEv _ none _ c43_0 0 0 _ (c43_0, [(2, (r0 : Int)), (2, 1), (2, (f2 : Int)), (0, a3), (9, 0), (9, 0), (9, 0), (9, 0)], [], h, 0, 0)
  have k0 := Kp.rf [(1000000, 0)] h
  have wr0 := g.qb q0
  have zr0 := q0.1
  refine ev_aload_n rfl ?_
  refine ev_call (jcall_v (A := []) (S' := []) (r := r0) rfl (g.qlt q0) (g.qtg q0) (Nat.le_of_ble_eq_true rfl)) (jOk_le (by decide) (s42 g q0)) (by decide) (by decide) (fun w9537 h9537 q9537 => ?_)
  obtain ⟨rfl, g9537, kk9537⟩ := q9537
  have k9537 := k0.tr kk9537 (by decide)
  show jEv _ _ _ _ _ _ _ (_, [(2, (r0 : Int)), (2, 1), (2, (f2 : Int)), (0, a3), (9, 0), (9, 0), (9, 0), (9, 0)], [], _, _, _)
  refine ev_aload_n rfl ?_
  refine ev_callF (A := []) (S' := []) (r := f2) rfl (g9537.flt q2) (g9537.ffam q2) (Nat.le_of_ble_eq_true rfl) (famL (by decide) (fam_fearsWorst g9537 q2)) (by decide) (by decide) (fun w9538 h9538 q9538 => ?_)
  obtain ⟨v9539, rfl, lv9539, uv9539, g9538, kk9538⟩ := q9538
  have k9538 := k9537.tr kk9538 (by decide)
  show jEv _ _ _ _ _ _ _ (_, [(2, (r0 : Int)), (2, 1), (2, (f2 : Int)), (0, a3), (9, 0), (9, 0), (9, 0), (9, 0)], [(0, v9539)], _, _, _)
  refine ev_istore (L' := [(2, (r0 : Int)), (2, 1), (2, (f2 : Int)), (0, a3), (0, v9539), (9, 0), (9, 0), (9, 0)]) (Nat.le_of_ble_eq_true rfl) rfl ?_
  refine ev_iconst ?_
  refine ev_istore (L' := [(2, (r0 : Int)), (2, 1), (2, (f2 : Int)), (0, a3), (0, v9539), (0, 0), (9, 0), (9, 0)]) (Nat.le_of_ble_eq_true rfl) rfl ?_
  exact (s43_l q0 q2 la3 ua3 202) _ _ _ _ g9538 k9538 (by omega) (by omega) (by omega) (by omega) (by omega) (by omega) (by omega) (by omega)
/-! 45 bestWay -/
set_option maxHeartbeats 4000000 in
theorem s45_l {G : GH} {h : JH} {r0 : Nat} {m0 : Int} (q0 : IsQ G r0 m0) {a1 : Int} (la1 : 0 ≤ a1) (ua1 : a1 ≤ m0 - 1) {a2 : Int} (la2 : (-2147483648) ≤ a2) (ua2 : a2 ≤ 2147483647) {a3 : Int} (la3 : (-9223372036854775808) ≤ a3) (ua3 : a3 ≤ 9223372036854775807) : ∀ N : Nat, (∀ (h1 : JH) (x5 x6 x8 : Int) (j9 j10 : AV), Gd G h1 → Kp [] h h1 → 0 ≤ a1 → a1 ≤ 99 → (-2147483648) ≤ a2 → a2 ≤ 2147483647 → (-9223372036854775808) ≤ a3 → a3 ≤ 9223372036854775807 → 0 ≤ x5 → x5 ≤ 3 → (-9223372036854775808) ≤ x6 → x6 ≤ 9223372036854775807 → 0 ≤ x8 → x8 ≤ 4 → ((-x8) + 4) < N → jEv (jOk 1) none (fun _ => 0) c45_0 0 0 (PI G [] h 0 0 3) (c45_9, [(2, (r0 : Int)), (0, a1), (0, a2), (1, a3), (9, 0), (0, x5), (1, x6), (9, 0), (0, x8), j9, j10, (9, 0)], [], h1, 0, 0)) := by
  intro N
  induction N with
  | zero => exact fun h1 x5 x6 x8 j9 j10 g1 k1 b0 b1 b2 b3 b4 b5 b6 b7 b8 b9 b10 b11 hm => absurd hm (by omega)
  | succ N ih =>
    show _
    intro h1 x5 x6 x8 j9 j10 g1 k1 b0 b1 b2 b3 b4 b5 b6 b7 b8 b9 b10 b11 hm
    have wr0 := g1.qb q0
    have zr0 := q0.1
    refine ev_iload rfl ?_
    refine ev_aload_n rfl ?_
    refine g_qgetp g1 q0 (c := 4) (by decide) (by decide) ft4_4 ?_
    refine ev_iload_n rfl ?_
    refine g_qiald g1 q0 (c := 4) (by decide) (by decide) (by decide) (by omega) (by show a1 < m0; omega) rfl (fun v9592 ev9592 lv9592 uv9592 => ?_)
    refine ev_icmpge f45_75 (fun c9593 => ?_) (fun c9593 => ?_)
    · refine ev_iload rfl ?_
      exact ev_ret rfl (by decide) (by decide) ⟨_, rfl, by omega, by omega, g1, k1⟩
    · refine ev_aload_n rfl ?_
      refine ev_iload_n rfl ?_
      refine ev_iload rfl ?_
      refine ev_in (d := 0) (a := 0) (b := 0) (cd' := c30_0) (m := 3) (L0 := [(2, (r0 : Int)), (0, a1), (0, x8)]) (jcall_v (A := [(0, x8), (0, a1)]) (S' := []) (r := r0) rfl (g1.qlt q0) (g1.qtg q0) (Nat.le_of_ble_eq_true rfl)) (by decide) ml30 pp30 (Nat.le_of_ble_eq_true rfl) rfl (by decide) (by decide) ?_
      refine ev_aload_n rfl ?_
      refine g_qgetp g1 q0 (c := 5) (by decide) (by decide) ft4_5 ?_
      refine ev_iconst ?_
      refine ev_iload_n rfl ?_
      refine ev_imul (r := (4 * a1)) (by unfold w32; omega) ?_
      refine ev_iload_n rfl ?_
      refine ev_iadd (r := (4 * a1 + x8)) (by unfold w32; omega) ?_
      refine g_qiald g1 q0 (c := 5) (by decide) (by decide) (by decide) (by omega) (by show (4 * a1 + x8) < 4 * m0; omega) rfl (fun v9594 ev9594 lv9594 uv9594 => ?_)
      refine ev_ret rfl (by decide) (by decide) ?_
      show jEv _ _ _ _ _ _ _ (_, [(2, (r0 : Int)), (0, a1), (0, a2), (1, a3), (9, 0), (0, x5), (1, x6), (9, 0), (0, x8), j9, j10, (9, 0)], [(0, v9594)], _, _, _)
      refine ev_istore (L' := [(2, (r0 : Int)), (0, a1), (0, a2), (1, a3), (9, 0), (0, x5), (1, x6), (9, 0), (0, x8), (0, v9594), j10, (9, 0)]) (Nat.le_of_ble_eq_true rfl) rfl ?_
      refine ev_iload rfl ?_
      refine ev_iload_n rfl ?_
      refine ev_icmpne f45_39 (fun c9595 => ?_) (fun c9595 => ?_)
      · refine ev_aload_n rfl ?_
        refine g_qgetp g1 q0 (c := 12) (by decide) (by decide) ft4_12 ?_
        refine ev_iload rfl ?_
        refine g_qlald g1 q0 (c := 12) (by decide) (by decide) (by decide) (by omega) (by show v9594 < m0; omega) rfl (fun v9596 ev9596 lv9596 uv9596 => ?_)
        refine ev_lstore (L' := [(2, (r0 : Int)), (0, a1), (0, a2), (1, a3), (9, 0), (0, x5), (1, x6), (9, 0), (0, x8), (0, v9594), (1, v9596), (9, 0)]) (Nat.le_of_ble_eq_true rfl) rfl ?_
        refine ev_iload rfl ?_
        refine ev_ifeq f45_61 (fun c9597 => ?_) (fun c9597 => ?_)
        · refine ev_lload rfl ?_
          refine ev_lstore (L' := [(2, (r0 : Int)), (0, a1), (0, a2), (1, a3), (9, 0), (0, x5), (1, v9596), (9, 0), (0, x8), (0, v9594), (1, v9596), (9, 0)]) (Nat.le_of_ble_eq_true rfl) rfl ?_
          refine ev_iload rfl ?_
          refine ev_istore (L' := [(2, (r0 : Int)), (0, a1), (0, a2), (1, a3), (9, 0), (0, x8), (1, v9596), (9, 0), (0, x8), (0, v9594), (1, v9596), (9, 0)]) (Nat.le_of_ble_eq_true rfl) rfl ?_
          refine ev_iinc (w := (x8 + 1)) (L' := [(2, (r0 : Int)), (0, a1), (0, a2), (1, a3), (9, 0), (0, x8), (1, v9596), (9, 0), (0, (x8 + 1)), (0, v9594), (1, v9596), (9, 0)]) rfl (by unfold w32; omega) rfl ?_
          refine ev_goto f45_9 ?_
          exact ih _ _ _ _ _ _ g1 k1 (by omega) (by omega) (by omega) (by omega) (by omega) (by omega) (by omega) (by omega) (by omega) (by omega) (by omega) (by omega) (by omega)
        · refine ev_lload rfl ?_
          refine ev_lload rfl ?_
          refine ev_lcmp ?_
          refine ev_ifle f45_69 (fun c9598 => ?_) (fun c9598 => ?_)
          · have c9598b := jcmpL_le c9598
            refine ev_iinc (w := (x8 + 1)) (L' := [(2, (r0 : Int)), (0, a1), (0, a2), (1, a3), (9, 0), (0, x5), (1, x6), (9, 0), (0, (x8 + 1)), (0, v9594), (1, v9596), (9, 0)]) rfl (by unfold w32; omega) rfl ?_
            refine ev_goto f45_9 ?_
            exact ih _ _ _ _ _ _ g1 k1 (by omega) (by omega) (by omega) (by omega) (by omega) (by omega) (by omega) (by omega) (by omega) (by omega) (by omega) (by omega) (by omega)
          · have c9598b := jcmpL_leN c9598
            refine ev_lload rfl ?_
            refine ev_lstore (L' := [(2, (r0 : Int)), (0, a1), (0, a2), (1, a3), (9, 0), (0, x5), (1, v9596), (9, 0), (0, x8), (0, v9594), (1, v9596), (9, 0)]) (Nat.le_of_ble_eq_true rfl) rfl ?_
            refine ev_iload rfl ?_
            refine ev_istore (L' := [(2, (r0 : Int)), (0, a1), (0, a2), (1, a3), (9, 0), (0, x8), (1, v9596), (9, 0), (0, x8), (0, v9594), (1, v9596), (9, 0)]) (Nat.le_of_ble_eq_true rfl) rfl ?_
            refine ev_iinc (w := (x8 + 1)) (L' := [(2, (r0 : Int)), (0, a1), (0, a2), (1, a3), (9, 0), (0, x8), (1, v9596), (9, 0), (0, (x8 + 1)), (0, v9594), (1, v9596), (9, 0)]) rfl (by unfold w32; omega) rfl ?_
            refine ev_goto f45_9 ?_
            exact ih _ _ _ _ _ _ g1 k1 (by omega) (by omega) (by omega) (by omega) (by omega) (by omega) (by omega) (by omega) (by omega) (by omega) (by omega) (by omega) (by omega)
      · refine ev_lload_n rfl ?_
        refine ev_goto f45_46 ?_
        refine ev_lstore (L' := [(2, (r0 : Int)), (0, a1), (0, a2), (1, a3), (9, 0), (0, x5), (1, x6), (9, 0), (0, x8), (0, v9594), (1, a3), (9, 0)]) (Nat.le_of_ble_eq_true rfl) rfl ?_
        refine ev_iload rfl ?_
        refine ev_ifeq f45_61 (fun c9599 => ?_) (fun c9599 => ?_)
        · refine ev_lload rfl ?_
          refine ev_lstore (L' := [(2, (r0 : Int)), (0, a1), (0, a2), (1, a3), (9, 0), (0, x5), (1, a3), (9, 0), (0, x8), (0, v9594), (1, a3), (9, 0)]) (Nat.le_of_ble_eq_true rfl) rfl ?_
          refine ev_iload rfl ?_
          refine ev_istore (L' := [(2, (r0 : Int)), (0, a1), (0, a2), (1, a3), (9, 0), (0, x8), (1, a3), (9, 0), (0, x8), (0, v9594), (1, a3), (9, 0)]) (Nat.le_of_ble_eq_true rfl) rfl ?_
          refine ev_iinc (w := (x8 + 1)) (L' := [(2, (r0 : Int)), (0, a1), (0, a2), (1, a3), (9, 0), (0, x8), (1, a3), (9, 0), (0, (x8 + 1)), (0, v9594), (1, a3), (9, 0)]) rfl (by unfold w32; omega) rfl ?_
          refine ev_goto f45_9 ?_
          exact ih _ _ _ _ _ _ g1 k1 (by omega) (by omega) (by omega) (by omega) (by omega) (by omega) (by omega) (by omega) (by omega) (by omega) (by omega) (by omega) (by omega)
        · refine ev_lload rfl ?_
          refine ev_lload rfl ?_
          refine ev_lcmp ?_
          refine ev_ifle f45_69 (fun c9600 => ?_) (fun c9600 => ?_)
          · have c9600b := jcmpL_le c9600
            refine ev_iinc (w := (x8 + 1)) (L' := [(2, (r0 : Int)), (0, a1), (0, a2), (1, a3), (9, 0), (0, x5), (1, x6), (9, 0), (0, (x8 + 1)), (0, v9594), (1, a3), (9, 0)]) rfl (by unfold w32; omega) rfl ?_
            refine ev_goto f45_9 ?_
            exact ih _ _ _ _ _ _ g1 k1 (by omega) (by omega) (by omega) (by omega) (by omega) (by omega) (by omega) (by omega) (by omega) (by omega) (by omega) (by omega) (by omega)
          · have c9600b := jcmpL_leN c9600
            refine ev_lload rfl ?_
            refine ev_lstore (L' := [(2, (r0 : Int)), (0, a1), (0, a2), (1, a3), (9, 0), (0, x5), (1, a3), (9, 0), (0, x8), (0, v9594), (1, a3), (9, 0)]) (Nat.le_of_ble_eq_true rfl) rfl ?_
            refine ev_iload rfl ?_
            refine ev_istore (L' := [(2, (r0 : Int)), (0, a1), (0, a2), (1, a3), (9, 0), (0, x8), (1, a3), (9, 0), (0, x8), (0, v9594), (1, a3), (9, 0)]) (Nat.le_of_ble_eq_true rfl) rfl ?_
            refine ev_iinc (w := (x8 + 1)) (L' := [(2, (r0 : Int)), (0, a1), (0, a2), (1, a3), (9, 0), (0, x8), (1, a3), (9, 0), (0, (x8 + 1)), (0, v9594), (1, a3), (9, 0)]) rfl (by unfold w32; omega) rfl ?_
            refine ev_goto f45_9 ?_
            exact ih _ _ _ _ _ _ g1 k1 (by omega) (by omega) (by omega) (by omega) (by omega) (by omega) (by omega) (by omega) (by omega) (by omega) (by omega) (by omega) (by omega)
set_option maxHeartbeats 4000000 in
theorem s45 {G : GH} {h : JH} (g : Gd G h) {r0 : Nat} {m0 : Int} (q0 : IsQ G r0 m0) {a1 : Int} (la1 : 0 ≤ a1) (ua1 : a1 ≤ m0 - 1) {a2 : Int} (la2 : (-2147483648) ≤ a2) (ua2 : a2 ≤ 2147483647) {a3 : Int} (la3 : (-9223372036854775808) ≤ a3) (ua3 : a3 ≤ 9223372036854775807) : jOk 2 0 0 45 [(2, (r0 : Int)), (0, a1), (0, a2), (1, a3)] h (PI G [] h 0 0 3) := by
  refine ⟨by decide, by rw [ml45]; exact Nat.le_of_ble_eq_true rfl, ?_⟩
  rw [ml45, pp45]
  show jEv _ none _ c45_0 0 0 _ (c45_0, [(2, (r0 : Int)), (0, a1), (0, a2), (1, a3), (9, 0), (9, 0), (9, 0), (9, 0), (9, 0), (9, 0), (9, 0), (9, 0)], [], h, 0, 0)
  have k0 := Kp.rf [] h
  have wr0 := g.qb q0
  have zr0 := q0.1
  refine ev_iconst ?_
  refine ev_istore (L' := [(2, (r0 : Int)), (0, a1), (0, a2), (1, a3), (9, 0), (0, 0), (9, 0), (9, 0), (9, 0), (9, 0), (9, 0), (9, 0)]) (Nat.le_of_ble_eq_true rfl) rfl ?_
  refine ev_lconst ?_
  refine ev_lstore (L' := [(2, (r0 : Int)), (0, a1), (0, a2), (1, a3), (9, 0), (0, 0), (1, 0), (9, 0), (9, 0), (9, 0), (9, 0), (9, 0)]) (Nat.le_of_ble_eq_true rfl) rfl ?_
  refine ev_iconst ?_
  refine ev_istore (L' := [(2, (r0 : Int)), (0, a1), (0, a2), (1, a3), (9, 0), (0, 0), (1, 0), (9, 0), (0, 0), (9, 0), (9, 0), (9, 0)]) (Nat.le_of_ble_eq_true rfl) rfl ?_
  exact (s45_l q0 la1 ua1 la2 ua2 la3 ua3 10) _ _ _ _ _ _ g k0 (by omega) (by omega) (by omega) (by omega) (by omega) (by omega) (by omega) (by omega) (by omega) (by omega) (by omega) (by omega) (by omega)
/-! 46 turnedWorth -/
set_option maxHeartbeats 4000000 in
theorem s46_l {G : GH} {h : JH} {r0 : Nat} {m0 : Int} (q0 : IsQ G r0 m0) {a1 : Int} (la1 : 0 ≤ a1) (ua1 : a1 ≤ m0 - 1) {a2 : Int} (la2 : 0 ≤ a2) (ua2 : a2 ≤ 1) : ∀ N : Nat, (∀ (h1 : JH) (x3 x5 : Int) (j6 : AV), Gd G h1 → Kp [] h h1 → 0 ≤ a1 → a1 ≤ 99 → 0 ≤ a2 → a2 ≤ 1 → (-9223372036854775808) ≤ x3 → x3 ≤ 9223372036854775807 → 1 ≤ x5 → x5 ≤ 4 → ((-x5) + 4) < N → jEv (jOk 1) none (fun _ => 0) c46_0 0 0 (PI G [] h 1 (-9223372036854775808) 9223372036854775807) (c46_15, [(2, (r0 : Int)), (0, a1), (0, a2), (1, x3), (9, 0), (0, x5), j6, (9, 0)], [], h1, 0, 0)) := by
  intro N
  induction N with
  | zero => exact fun h1 x3 x5 j6 g1 k1 b0 b1 b2 b3 b4 b5 b6 b7 hm => absurd hm (by omega)
  | succ N ih =>
    show _
    intro h1 x3 x5 j6 g1 k1 b0 b1 b2 b3 b4 b5 b6 b7 hm
    have wr0 := g1.qb q0
    have zr0 := q0.1
    refine ev_iload rfl ?_
    refine ev_aload_n rfl ?_
    refine g_qgetp g1 q0 (c := 4) (by decide) (by decide) ft4_4 ?_
    refine ev_iload_n rfl ?_
    refine g_qiald g1 q0 (c := 4) (by decide) (by decide) (by decide) (by omega) (by show a1 < m0; omega) rfl (fun v9640 ev9640 lv9640 uv9640 => ?_)
    refine ev_icmpge f46_64 (fun c9641 => ?_) (fun c9641 => ?_)
    · refine ev_lload_n rfl ?_
      exact ev_ret rfl (by decide) (by decide) ⟨_, rfl, by omega, by omega, g1, k1⟩
    · refine ev_aload_n rfl ?_
      refine g_qgetp g1 q0 (c := 12) (by decide) (by decide) ft4_12 ?_
      refine ev_aload_n rfl ?_
      refine ev_iload_n rfl ?_
      refine ev_iload rfl ?_
      refine ev_in (d := 0) (a := 0) (b := 0) (cd' := c30_0) (m := 3) (L0 := [(2, (r0 : Int)), (0, a1), (0, x5)]) (jcall_v (A := [(0, x5), (0, a1)]) (S' := [(2, ((r0 + 11 : Nat) : Int))]) (r := r0) rfl (g1.qlt q0) (g1.qtg q0) (Nat.le_of_ble_eq_true rfl)) (by decide) ml30 pp30 (Nat.le_of_ble_eq_true rfl) rfl (by decide) (by decide) ?_
      refine ev_aload_n rfl ?_
      refine g_qgetp g1 q0 (c := 5) (by decide) (by decide) ft4_5 ?_
      refine ev_iconst ?_
      refine ev_iload_n rfl ?_
      refine ev_imul (r := (4 * a1)) (by unfold w32; omega) ?_
      refine ev_iload_n rfl ?_
      refine ev_iadd (r := (4 * a1 + x5)) (by unfold w32; omega) ?_
      refine g_qiald g1 q0 (c := 5) (by decide) (by decide) (by decide) (by omega) (by show (4 * a1 + x5) < 4 * m0; omega) rfl (fun v9642 ev9642 lv9642 uv9642 => ?_)
      refine ev_ret rfl (by decide) (by decide) ?_
      show jEv _ _ _ _ _ _ _ (_, [(2, (r0 : Int)), (0, a1), (0, a2), (1, x3), (9, 0), (0, x5), j6, (9, 0)], [(0, v9642), (2, ((r0 + 11 : Nat) : Int))], _, _, _)
      refine g_qlald g1 q0 (c := 12) (by decide) (by decide) (by decide) (by omega) (by show v9642 < m0; omega) rfl (fun v9643 ev9643 lv9643 uv9643 => ?_)
      refine ev_lstore (L' := [(2, (r0 : Int)), (0, a1), (0, a2), (1, x3), (9, 0), (0, x5), (1, v9643), (9, 0)]) (Nat.le_of_ble_eq_true rfl) rfl ?_
      refine ev_iload_n rfl ?_
      refine ev_ifeq f46_53 (fun c9644 => ?_) (fun c9644 => ?_)
      · refine ev_lload_n rfl ?_
        refine ev_lload rfl ?_
        refine g_laddG (fun v9645 ev9645 lv9645 uv9645 => ?_)
        refine ev_lstore_n (L' := [(2, (r0 : Int)), (0, a1), (0, a2), (1, v9645), (9, 0), (0, x5), (1, v9643), (9, 0)]) (Nat.le_of_ble_eq_true rfl) rfl ?_
        refine ev_iinc (w := (x5 + 1)) (L' := [(2, (r0 : Int)), (0, a1), (0, a2), (1, v9645), (9, 0), (0, (x5 + 1)), (1, v9643), (9, 0)]) rfl (by unfold w32; omega) rfl ?_
        refine ev_goto f46_15 ?_
        exact ih _ _ _ _ g1 k1 (by omega) (by omega) (by omega) (by omega) (by omega) (by omega) (by omega) (by omega) (by omega)
      · refine ev_lload_n rfl ?_
        refine ev_lload rfl ?_
        refine ev_in (d := 0) (a := 0) (b := 0) (cd' := c382_0) (m := 4) (L0 := [(1, x3), (9, 0), (1, v9643), (9, 0)]) (jcall_s (A := [(1, v9643), (1, x3)]) (S' := []) (by decide) rfl (Nat.le_of_ble_eq_true rfl)) (by decide) ml382 pp382 (Nat.le_of_ble_eq_true rfl) rfl (by decide) (by decide) ?_
        refine ev_lload_n rfl ?_
        refine ev_lload_n rfl ?_
        refine ev_lcmp ?_
        refine ev_ifgt f382_10 (fun c9646 => ?_) (fun c9646 => ?_)
        · have c9646b := jcmpL_gt c9646
          refine ev_lload_n rfl ?_
          refine ev_ret rfl (by decide) (by decide) ?_
          show jEv _ _ _ _ _ _ _ (_, [(2, (r0 : Int)), (0, a1), (0, a2), (1, x3), (9, 0), (0, x5), (1, v9643), (9, 0)], [(1, v9643)], _, _, _)
          refine ev_goto f46_57 ?_
          refine ev_lstore_n (L' := [(2, (r0 : Int)), (0, a1), (0, a2), (1, v9643), (9, 0), (0, x5), (1, v9643), (9, 0)]) (Nat.le_of_ble_eq_true rfl) rfl ?_
          refine ev_iinc (w := (x5 + 1)) (L' := [(2, (r0 : Int)), (0, a1), (0, a2), (1, v9643), (9, 0), (0, (x5 + 1)), (1, v9643), (9, 0)]) rfl (by unfold w32; omega) rfl ?_
          refine ev_goto f46_15 ?_
          exact ih _ _ _ _ g1 k1 (by omega) (by omega) (by omega) (by omega) (by omega) (by omega) (by omega) (by omega) (by omega)
        · have c9646b := jcmpL_gtN c9646
          refine ev_lload_n rfl ?_
          refine ev_goto f382_11 ?_
          refine ev_ret rfl (by decide) (by decide) ?_
          show jEv _ _ _ _ _ _ _ (_, [(2, (r0 : Int)), (0, a1), (0, a2), (1, x3), (9, 0), (0, x5), (1, v9643), (9, 0)], [(1, x3)], _, _, _)
          refine ev_goto f46_57 ?_
          refine ev_lstore_n (L' := [(2, (r0 : Int)), (0, a1), (0, a2), (1, x3), (9, 0), (0, x5), (1, v9643), (9, 0)]) (Nat.le_of_ble_eq_true rfl) rfl ?_
          refine ev_iinc (w := (x5 + 1)) (L' := [(2, (r0 : Int)), (0, a1), (0, a2), (1, x3), (9, 0), (0, (x5 + 1)), (1, v9643), (9, 0)]) rfl (by unfold w32; omega) rfl ?_
          refine ev_goto f46_15 ?_
          exact ih _ _ _ _ g1 k1 (by omega) (by omega) (by omega) (by omega) (by omega) (by omega) (by omega) (by omega) (by omega)
set_option maxHeartbeats 4000000 in
theorem s46 {G : GH} {h : JH} (g : Gd G h) {r0 : Nat} {m0 : Int} (q0 : IsQ G r0 m0) {a1 : Int} (la1 : 0 ≤ a1) (ua1 : a1 ≤ m0 - 1) {a2 : Int} (la2 : 0 ≤ a2) (ua2 : a2 ≤ 1) : jOk 2 0 0 46 [(2, (r0 : Int)), (0, a1), (0, a2)] h (PI G [] h 1 (-9223372036854775808) 9223372036854775807) := by
  refine ⟨by decide, by rw [ml46]; exact Nat.le_of_ble_eq_true rfl, ?_⟩
  rw [ml46, pp46]
  show jEv _ none _ c46_0 0 0 _ (c46_0, [(2, (r0 : Int)), (0, a1), (0, a2), (9, 0), (9, 0), (9, 0), (9, 0), (9, 0)], [], h, 0, 0)
  have k0 := Kp.rf [] h
  have wr0 := g.qb q0
  have zr0 := q0.1
  refine ev_aload_n rfl ?_
  refine g_qgetp g q0 (c := 12) (by decide) (by decide) ft4_12 ?_
  refine ev_aload_n rfl ?_
  refine ev_iload_n rfl ?_
  refine ev_iconst ?_
  refine ev_in (d := 0) (a := 0) (b := 0) (cd' := c30_0) (m := 3) (L0 := [(2, (r0 : Int)), (0, a1), (0, 0)]) (jcall_v (A := [(0, 0), (0, a1)]) (S' := [(2, ((r0 + 11 : Nat) : Int))]) (r := r0) rfl (g.qlt q0) (g.qtg q0) (Nat.le_of_ble_eq_true rfl)) (by decide) ml30 pp30 (Nat.le_of_ble_eq_true rfl) rfl (by decide) (by decide) ?_
  refine ev_aload_n rfl ?_
  refine g_qgetp g q0 (c := 5) (by decide) (by decide) ft4_5 ?_
  refine ev_iconst ?_
  refine ev_iload_n rfl ?_
  refine ev_imul (r := (4 * a1)) (by unfold w32; omega) ?_
  refine ev_iload_n rfl ?_
  refine ev_iadd (r := (4 * a1)) (by unfold w32; omega) ?_
  refine g_qiald g q0 (c := 5) (by decide) (by decide) (by decide) (by omega) (by show (4 * a1) < 4 * m0; omega) rfl (fun v9647 ev9647 lv9647 uv9647 => ?_)
  refine ev_ret rfl (by decide) (by decide) ?_
  show jEv _ _ _ _ _ _ _ (_, [(2, (r0 : Int)), (0, a1), (0, a2), (9, 0), (9, 0), (9, 0), (9, 0), (9, 0)], [(0, v9647), (2, ((r0 + 11 : Nat) : Int))], _, _, _)
  refine g_qlald g q0 (c := 12) (by decide) (by decide) (by decide) (by omega) (by show v9647 < m0; omega) rfl (fun v9648 ev9648 lv9648 uv9648 => ?_)
  refine ev_lstore_n (L' := [(2, (r0 : Int)), (0, a1), (0, a2), (1, v9648), (9, 0), (9, 0), (9, 0), (9, 0)]) (Nat.le_of_ble_eq_true rfl) rfl ?_
  refine ev_iconst ?_
  refine ev_istore (L' := [(2, (r0 : Int)), (0, a1), (0, a2), (1, v9648), (9, 0), (0, 1), (9, 0), (9, 0)]) (Nat.le_of_ble_eq_true rfl) rfl ?_
  exact (s46_l q0 la1 ua1 la2 ua2 8) _ _ _ _ g k0 (by omega) (by omega) (by omega) (by omega) (by omega) (by omega) (by omega) (by omega) (by omega)
/-! 44 rise -/
set_option maxHeartbeats 4000000 in
theorem s44_l {G : GH} {h : JH} {r0 : Nat} {m0 : Int} (q0 : IsQ G r0 m0) {a1 : Int} (la1 : 0 ≤ a1) (ua1 : a1 ≤ 1) {a2 : Int} (la2 : 0 ≤ a2) (ua2 : a2 ≤ 1) : ∀ N : Nat, (∀ (h1 : JH) (x3 : Int), Gd G h1 → Kp [(1000000, 0)] h h1 → 0 ≤ a1 → a1 ≤ 1 → 0 ≤ a2 → a2 ≤ 1 → (-1) ≤ x3 → x3 ≤ 99 → x3 ≤ m0 - 1 → (x3 + 1) < N → jEv (jOk 2) none (fun _ => 0) c44_0 0 0 (PI G [(1000000, 0)] h 1 (-9223372036854775808) 9223372036854775807) (c44_7, [(2, (r0 : Int)), (0, a1), (0, a2), (0, x3)], [], h1, 0, 0)) := by
  intro N
  induction N with
  | zero => exact fun h1 x3 g1 k1 b0 b1 b2 b3 b4 b5 b6 hm => absurd hm (by omega)
  | succ N ih =>
    show _
    intro h1 x3 g1 k1 b0 b1 b2 b3 b4 b5 b6 hm
    have wr0 := g1.qb q0
    have zr0 := q0.1
    refine ev_iload_n rfl ?_
    refine ev_iflt f44_100 (fun c9691 => ?_) (fun c9691 => ?_)
    · refine ev_aload_n rfl ?_
      refine g_qgetp g1 q0 (c := 12) (by decide) (by decide) ft4_12 ?_
      refine ev_iconst ?_
      refine g_qlald g1 q0 (c := 12) (by decide) (by decide) (by decide) (by omega) (by show 0 < m0; omega) rfl (fun v9692 ev9692 lv9692 uv9692 => ?_)
      exact ev_ret rfl (by decide) (by decide) ⟨_, rfl, by omega, by omega, g1, k1⟩
    · refine ev_aload_n rfl ?_
      refine g_qgetp g1 q0 (c := 2) (by decide) (by decide) ft4_2 ?_
      refine ev_iload_n rfl ?_
      refine g_qiald g1 q0 (c := 2) (by decide) (by decide) (by decide) (by omega) (by show x3 < m0; omega) rfl (fun v9693 ev9693 lv9693 uv9693 => ?_)
      refine ev_iconst ?_
      refine ev_icmpne f44_72 (fun c9694 => ?_) (fun c9694 => ?_)
      · refine ev_aload_n rfl ?_
        refine g_qgetp g1 q0 (c := 2) (by decide) (by decide) ft4_2 ?_
        refine ev_iload_n rfl ?_
        refine g_qialdv (v := v9693) g1 q0 (c := 2) (by decide) (by decide) (by decide) (by omega) (by show x3 < m0; omega) (ev9693) ?_
        refine ev_iconst ?_
        refine ev_icmpne f44_94 (fun c9695 => ?_) (fun c9695 => ?_)
        · refine ev_iinc (w := (x3 - 1)) (L' := [(2, (r0 : Int)), (0, a1), (0, a2), (0, (x3 - 1))]) rfl (by unfold w32; omega) rfl ?_
          refine ev_goto f44_7 ?_
          exact ih _ _ g1 k1 (by omega) (by omega) (by omega) (by omega) (by omega) (by omega) (by omega) (by omega)
        · refine ev_aload_n rfl ?_
          refine g_qgetp g1 q0 (c := 12) (by decide) (by decide) ft4_12 ?_
          refine ev_iload_n rfl ?_
          refine ev_aload_n rfl ?_
          refine ev_iload_n rfl ?_
          refine ev_iload_n rfl ?_
          refine ev_call (jcall_v (A := [(0, a1), (0, x3)]) (S' := [(0, x3), (2, ((r0 + 11 : Nat) : Int))]) (r := r0) rfl (g1.qlt q0) (g1.qtg q0) (Nat.le_of_ble_eq_true rfl)) (jOk_le (by decide) (s46 g1 q0 (by omega) (by omega) (by omega) (by omega))) (by decide) (by decide) (fun w9696 h9696 q9696 => ?_)
          obtain ⟨v9697, rfl, lv9697, uv9697, g9696, kk9696⟩ := q9696
          have k9696 := k1.tr kk9696 (by decide)
          show jEv _ _ _ _ _ _ _ (_, [(2, (r0 : Int)), (0, a1), (0, a2), (0, x3)], [(1, v9697), (0, x3), (2, ((r0 + 11 : Nat) : Int))], _, _, _)
          refine g_qlast g9696 q0 (c := 12) (by decide) (by decide) (by decide) (by omega) (by show x3 < m0; omega) rfl (by omega) (by omega) (fun h9698 e9698 g9698 => ?_)
          have k9698 := k9696.wr e9698 (inW_dyn rfl (by have := q0.1; omega))
          refine ev_iinc (w := (x3 - 1)) (L' := [(2, (r0 : Int)), (0, a1), (0, a2), (0, (x3 - 1))]) rfl (by unfold w32; omega) rfl ?_
          refine ev_goto f44_7 ?_
          exact ih _ _ g9698 k9698 (by omega) (by omega) (by omega) (by omega) (by omega) (by omega) (by omega) (by omega)
      · refine ev_aload_n rfl ?_
        refine g_qgetp g1 q0 (c := 10) (by decide) (by decide) ft4_10 ?_
        refine ev_iload_n rfl ?_
        refine ev_iload_n rfl ?_
        refine ev_ifeq f44_40 (fun c9699 => ?_) (fun c9699 => ?_)
        · refine ev_aload_n rfl ?_
          refine g_qgetp g1 q0 (c := 9) (by decide) (by decide) ft4_9 ?_
          refine ev_iload_n rfl ?_
          refine g_qiald g1 q0 (c := 9) (by decide) (by decide) (by decide) (by omega) (by show x3 < m0; omega) rfl (fun v9700 ev9700 lv9700 uv9700 => ?_)
          refine g_qiast g1 q0 (c := 10) (by decide) (by decide) (by decide) (by omega) (by show x3 < m0; omega) rfl (by omega) (by omega) (fun h9701 e9701 g9701 => ?_)
          have k9701 := k1.wr e9701 (inW_dyn rfl (by have := q0.1; omega))
          refine ev_aload_n rfl ?_
          refine g_qgetp g9701 q0 (c := 12) (by decide) (by decide) ft4_12 ?_
          refine ev_iload_n rfl ?_
          refine ev_aload_n rfl ?_
          refine g_qgetp g9701 q0 (c := 12) (by decide) (by decide) ft4_12 ?_
          refine ev_aload_n rfl ?_
          refine ev_iload_n rfl ?_
          refine ev_aload_n rfl ?_
          refine g_qgetp g9701 q0 (c := 10) (by decide) (by decide) ft4_10 ?_
          refine ev_iload_n rfl ?_
          refine g_qialdv (v := v9700) g9701 q0 (c := 10) (by decide) (by decide) (by decide) (by omega) (by show x3 < m0; omega) ((jw_eq e9701)) ?_
          refine ev_in (d := 1) (a := 0) (b := 0) (cd' := c30_0) (m := 3) (L0 := [(2, (r0 : Int)), (0, x3), (0, v9700)]) (jcall_v (A := [(0, v9700), (0, x3)]) (S' := [(2, ((r0 + 11 : Nat) : Int)), (0, x3), (2, ((r0 + 11 : Nat) : Int))]) (r := r0) rfl (g9701.qlt q0) (g9701.qtg q0) (Nat.le_of_ble_eq_true rfl)) (by decide) ml30 pp30 (Nat.le_of_ble_eq_true rfl) rfl (by decide) (by decide) ?_
          refine ev_aload_n rfl ?_
          refine g_qgetp g9701 q0 (c := 5) (by decide) (by decide) ft4_5 ?_
          refine ev_iconst ?_
          refine ev_iload_n rfl ?_
          refine ev_imul (r := (4 * x3)) (by unfold w32; omega) ?_
          refine ev_iload_n rfl ?_
          refine ev_iadd (r := (v9700 + 4 * x3)) (by unfold w32; omega) ?_
          refine g_qiald g9701 q0 (c := 5) (by decide) (by decide) (by decide) (by omega) (by show (v9700 + 4 * x3) < 4 * m0; omega) rfl (fun v9702 ev9702 lv9702 uv9702 => ?_)
          refine ev_ret rfl (by decide) (by decide) ?_
          show jEv _ _ _ _ _ _ _ (_, [(2, (r0 : Int)), (0, a1), (0, a2), (0, x3)], [(0, v9702), (2, ((r0 + 11 : Nat) : Int)), (0, x3), (2, ((r0 + 11 : Nat) : Int))], _, _, _)
          refine g_qlald g9701 q0 (c := 12) (by decide) (by decide) (by decide) (by omega) (by show v9702 < m0; omega) rfl (fun v9703 ev9703 lv9703 uv9703 => ?_)
          refine g_qlast g9701 q0 (c := 12) (by decide) (by decide) (by decide) (by omega) (by show x3 < m0; omega) rfl (by omega) (by omega) (fun h9704 e9704 g9704 => ?_)
          have k9704 := k9701.wr e9704 (inW_dyn rfl (by have := q0.1; omega))
          refine ev_goto f44_94 ?_
          refine ev_iinc (w := (x3 - 1)) (L' := [(2, (r0 : Int)), (0, a1), (0, a2), (0, (x3 - 1))]) rfl (by unfold w32; omega) rfl ?_
          refine ev_goto f44_7 ?_
          exact ih _ _ g9704 k9704 (by omega) (by omega) (by omega) (by omega) (by omega) (by omega) (by omega) (by omega)
        · refine ev_aload_n rfl ?_
          refine ev_iload_n rfl ?_
          refine ev_iconst ?_
          refine ev_lconst ?_
          refine ev_call (jcall_v (A := [(1, 0), (0, (-1)), (0, x3)]) (S' := [(0, x3), (2, ((r0 + 9 : Nat) : Int))]) (r := r0) rfl (g1.qlt q0) (g1.qtg q0) (Nat.le_of_ble_eq_true rfl)) (jOk_le (by decide) (s45 g1 q0 (by omega) (by omega) (by omega) (by omega) (by omega) (by omega))) (by decide) (by decide) (fun w9705 h9705 q9705 => ?_)
          obtain ⟨v9706, rfl, lv9706, uv9706, g9705, kk9705⟩ := q9705
          have k9705 := k1.tr kk9705 (by decide)
          show jEv _ _ _ _ _ _ _ (_, [(2, (r0 : Int)), (0, a1), (0, a2), (0, x3)], [(0, v9706), (0, x3), (2, ((r0 + 9 : Nat) : Int))], _, _, _)
          refine ev_goto f44_46 ?_
          refine g_qiast g9705 q0 (c := 10) (by decide) (by decide) (by decide) (by omega) (by show x3 < m0; omega) rfl (by omega) (by omega) (fun h9707 e9707 g9707 => ?_)
          have k9707 := k9705.wr e9707 (inW_dyn rfl (by have := q0.1; omega))
          refine ev_aload_n rfl ?_
          refine g_qgetp g9707 q0 (c := 12) (by decide) (by decide) ft4_12 ?_
          refine ev_iload_n rfl ?_
          refine ev_aload_n rfl ?_
          refine g_qgetp g9707 q0 (c := 12) (by decide) (by decide) ft4_12 ?_
          refine ev_aload_n rfl ?_
          refine ev_iload_n rfl ?_
          refine ev_aload_n rfl ?_
          refine g_qgetp g9707 q0 (c := 10) (by decide) (by decide) ft4_10 ?_
          refine ev_iload_n rfl ?_
          refine g_qialdv (v := v9706) g9707 q0 (c := 10) (by decide) (by decide) (by decide) (by omega) (by show x3 < m0; omega) ((jw_eq e9707)) ?_
          refine ev_in (d := 1) (a := 0) (b := 0) (cd' := c30_0) (m := 3) (L0 := [(2, (r0 : Int)), (0, x3), (0, v9706)]) (jcall_v (A := [(0, v9706), (0, x3)]) (S' := [(2, ((r0 + 11 : Nat) : Int)), (0, x3), (2, ((r0 + 11 : Nat) : Int))]) (r := r0) rfl (g9707.qlt q0) (g9707.qtg q0) (Nat.le_of_ble_eq_true rfl)) (by decide) ml30 pp30 (Nat.le_of_ble_eq_true rfl) rfl (by decide) (by decide) ?_
          refine ev_aload_n rfl ?_
          refine g_qgetp g9707 q0 (c := 5) (by decide) (by decide) ft4_5 ?_
          refine ev_iconst ?_
          refine ev_iload_n rfl ?_
          refine ev_imul (r := (4 * x3)) (by unfold w32; omega) ?_
          refine ev_iload_n rfl ?_
          refine ev_iadd (r := (v9706 + 4 * x3)) (by unfold w32; omega) ?_
          refine g_qiald g9707 q0 (c := 5) (by decide) (by decide) (by decide) (by omega) (by show (v9706 + 4 * x3) < 4 * m0; omega) rfl (fun v9708 ev9708 lv9708 uv9708 => ?_)
          refine ev_ret rfl (by decide) (by decide) ?_
          show jEv _ _ _ _ _ _ _ (_, [(2, (r0 : Int)), (0, a1), (0, a2), (0, x3)], [(0, v9708), (2, ((r0 + 11 : Nat) : Int)), (0, x3), (2, ((r0 + 11 : Nat) : Int))], _, _, _)
          refine g_qlald g9707 q0 (c := 12) (by decide) (by decide) (by decide) (by omega) (by show v9708 < m0; omega) rfl (fun v9709 ev9709 lv9709 uv9709 => ?_)
          refine g_qlast g9707 q0 (c := 12) (by decide) (by decide) (by decide) (by omega) (by show x3 < m0; omega) rfl (by omega) (by omega) (fun h9710 e9710 g9710 => ?_)
          have k9710 := k9707.wr e9710 (inW_dyn rfl (by have := q0.1; omega))
          refine ev_goto f44_94 ?_
          refine ev_iinc (w := (x3 - 1)) (L' := [(2, (r0 : Int)), (0, a1), (0, a2), (0, (x3 - 1))]) rfl (by unfold w32; omega) rfl ?_
          refine ev_goto f44_7 ?_
          exact ih _ _ g9710 k9710 (by omega) (by omega) (by omega) (by omega) (by omega) (by omega) (by omega) (by omega)
set_option maxHeartbeats 4000000 in
theorem s44 {G : GH} {h : JH} (g : Gd G h) {r0 : Nat} {m0 : Int} (q0 : IsQ G r0 m0) {a1 : Int} (la1 : 0 ≤ a1) (ua1 : a1 ≤ 1) {a2 : Int} (la2 : 0 ≤ a2) (ua2 : a2 ≤ 1) : jOk 3 0 0 44 [(2, (r0 : Int)), (0, a1), (0, a2)] h (PI G [(1000000, 0)] h 1 (-9223372036854775808) 9223372036854775807) := by
  refine ⟨by decide, by rw [ml44]; exact Nat.le_of_ble_eq_true rfl, ?_⟩
  rw [ml44, pp44]
  show jEv _ none _ c44_0 0 0 _ (c44_0, [(2, (r0 : Int)), (0, a1), (0, a2), (9, 0)], [], h, 0, 0)
  have k0 := Kp.rf [(1000000, 0)] h
  have wr0 := g.qb q0
  have zr0 := q0.1
  refine ev_aload_n rfl ?_
  obtain ⟨v9711, ev9711, lv9711, uv9711⟩ := g.q0 q0
  refine g_qgetv (v := v9711) g q0 ft4_0 ev9711 ?_
  refine ev_iconst ?_
  refine ev_isub (r := (v9711 - 1)) (by unfold w32; omega) ?_
  refine ev_istore_n (L' := [(2, (r0 : Int)), (0, a1), (0, a2), (0, (v9711 - 1))]) (Nat.le_of_ble_eq_true rfl) rfl ?_
  exact (s44_l q0 la1 ua1 la2 ua2 202) _ _ g k0 (by omega) (by omega) (by omega) (by omega) (by omega) (by omega) (by omega) (by omega)
/-! 47 bestWorth -/
set_option maxHeartbeats 4000000 in
theorem s47 {G : GH} {h : JH} (g : Gd G h) {r0 : Nat} {m0 : Int} (q0 : IsQ G r0 m0) {f2 : Nat} (q2 : IsF G f2) {a3 : Int} (la3 : (-2147483648) ≤ a3) (ua3 : a3 ≤ 2147483647) : jOk 5 0 0 47 [(2, (r0 : Int)), (2, 1), (2, (f2 : Int)), (0, a3)] h (PI G [(1000000, 0)] h 1 (-9223372036854775808) 9223372036854775807) := by
  refine ⟨by decide, by rw [ml47]; exact Nat.le_of_ble_eq_true rfl, ?_⟩
  rw [ml47, pp47]
  show jEv _ none _ c47_0 0 0 _ (c47_0, [(2, (r0 : Int)), (2, 1), (2, (f2 : Int)), (0, a3)], [], h, 0, 0)
  have k0 := Kp.rf [(1000000, 0)] h
  have wr0 := g.qb q0
  have zr0 := q0.1
  refine ev_aload_n rfl ?_
  refine ev_aload_n rfl ?_
  refine ev_aload_n rfl ?_
  refine ev_iload_n rfl ?_
  refine ev_call (jcall_v (A := [(0, a3), (2, (f2 : Int)), (2, 1)]) (S' := []) (r := r0) rfl (g.qlt q0) (g.qtg q0) (Nat.le_of_ble_eq_true rfl)) (jOk_le (by decide) (s43 g q0 q2 (by omega) (by omega))) (by decide) (by decide) (fun w9722 h9722 q9722 => ?_)
  obtain ⟨rfl, g9722, kk9722⟩ := q9722
  have k9722 := k0.tr kk9722 (by decide)
  show jEv _ _ _ _ _ _ _ (_, [(2, (r0 : Int)), (2, 1), (2, (f2 : Int)), (0, a3)], [], _, _, _)
  refine ev_aload_n rfl ?_
  refine ev_aload_n rfl ?_
  refine ev_callF (A := []) (S' := [(2, (r0 : Int))]) (r := f2) rfl (g9722.flt q2) (g9722.ffam q2) (Nat.le_of_ble_eq_true rfl) (famL (by decide) (fam_fearsWorst g9722 q2)) (by decide) (by decide) (fun w9723 h9723 q9723 => ?_)
  obtain ⟨v9724, rfl, lv9724, uv9724, g9723, kk9723⟩ := q9723
  have k9723 := k9722.tr kk9723 (by decide)
  show jEv _ _ _ _ _ _ _ (_, [(2, (r0 : Int)), (2, 1), (2, (f2 : Int)), (0, a3)], [(0, v9724), (2, (r0 : Int))], _, _, _)
  refine ev_iconst ?_
  refine ev_call (jcall_v (A := [(0, 1), (0, v9724)]) (S' := []) (r := r0) rfl (g9723.qlt q0) (g9723.qtg q0) (Nat.le_of_ble_eq_true rfl)) (jOk_le (by decide) (s44 g9723 q0 (by omega) (by omega) (by omega) (by omega))) (by decide) (by decide) (fun w9725 h9725 q9725 => ?_)
  obtain ⟨v9726, rfl, lv9726, uv9726, g9725, kk9725⟩ := q9725
  have k9725 := k9723.tr kk9725 (by decide)
  show jEv _ _ _ _ _ _ _ (_, [(2, (r0 : Int)), (2, 1), (2, (f2 : Int)), (0, a3)], [(1, v9726)], _, _, _)
  exact ev_ret rfl (by decide) (by decide) ⟨_, rfl, by omega, by omega, g9725, k9725⟩
/-! 49 judgedRise -/
set_option maxHeartbeats 4000000 in
theorem s49 {G : GH} {h : JH} (g : Gd G h) {r0 : Nat} {m0 : Int} (q0 : IsQ G r0 m0) {f1 : Nat} (q1 : IsF G f1) : jOk 4 0 0 49 [(2, (r0 : Int)), (2, (f1 : Int))] h (PI G [(1000000, 0)] h 1 (-9223372036854775808) 9223372036854775807) := by
  refine ⟨by decide, by rw [ml49]; exact Nat.le_of_ble_eq_true rfl, ?_⟩
  rw [ml49, pp49]
  show jEv _ none _ c49_0 0 0 _ (c49_0, [(2, (r0 : Int)), (2, (f1 : Int))], [], h, 0, 0)
  have k0 := Kp.rf [(1000000, 0)] h
  have wr0 := g.qb q0
  have zr0 := q0.1
  refine ev_aload_n rfl ?_
  refine ev_aload_n rfl ?_
  refine ev_callF (A := []) (S' := [(2, (r0 : Int))]) (r := f1) rfl (g.flt q1) (g.ffam q1) (Nat.le_of_ble_eq_true rfl) (famL (by decide) (fam_fearsWorst g q1)) (by decide) (by decide) (fun w9735 h9735 q9735 => ?_)
  obtain ⟨v9736, rfl, lv9736, uv9736, g9735, kk9735⟩ := q9735
  have k9735 := k0.tr kk9735 (by decide)
  show jEv _ _ _ _ _ _ _ (_, [(2, (r0 : Int)), (2, (f1 : Int))], [(0, v9736), (2, (r0 : Int))], _, _, _)
  refine ev_iconst ?_
  refine ev_call (jcall_v (A := [(0, 0), (0, v9736)]) (S' := []) (r := r0) rfl (g9735.qlt q0) (g9735.qtg q0) (Nat.le_of_ble_eq_true rfl)) (jOk_le (by decide) (s44 g9735 q0 (by omega) (by omega) (by omega) (by omega))) (by decide) (by decide) (fun w9737 h9737 q9737 => ?_)
  obtain ⟨v9738, rfl, lv9738, uv9738, g9737, kk9737⟩ := q9737
  have k9737 := k9735.tr kk9737 (by decide)
  show jEv _ _ _ _ _ _ _ (_, [(2, (r0 : Int)), (2, (f1 : Int))], [(1, v9738)], _, _, _)
  exact ev_ret rfl (by decide) (by decide) ⟨_, rfl, by omega, by omega, g9737, k9737⟩
/-! 48 judgedWorth -/
set_option maxHeartbeats 4000000 in
theorem s48 {G : GH} {h : JH} (g : Gd G h) {r0 : Nat} {m0 : Int} (q0 : IsQ G r0 m0) {f2 : Nat} (q2 : IsF G f2) : jOk 5 0 0 48 [(2, (r0 : Int)), (2, 1), (2, (f2 : Int))] h (PI G [(1000000, 0)] h 1 (-9223372036854775808) 9223372036854775807) := by
  refine ⟨by decide, by rw [ml48]; exact Nat.le_of_ble_eq_true rfl, ?_⟩
  rw [ml48, pp48]
  show jEv _ none _ c48_0 0 0 _ (c48_0, [(2, (r0 : Int)), (2, 1), (2, (f2 : Int))], [], h, 0, 0)
  have k0 := Kp.rf [(1000000, 0)] h
  have wr0 := g.qb q0
  have zr0 := q0.1
  refine ev_aload_n rfl ?_
  refine ev_aload_n rfl ?_
  refine ev_aload_n rfl ?_
  refine ev_iconst ?_
  refine ev_call (jcall_v (A := [(0, 0), (2, (f2 : Int)), (2, 1)]) (S' := []) (r := r0) rfl (g.qlt q0) (g.qtg q0) (Nat.le_of_ble_eq_true rfl)) (jOk_le (by decide) (s43 g q0 q2 (by omega) (by omega))) (by decide) (by decide) (fun w9745 h9745 q9745 => ?_)
  obtain ⟨rfl, g9745, kk9745⟩ := q9745
  have k9745 := k0.tr kk9745 (by decide)
  show jEv _ _ _ _ _ _ _ (_, [(2, (r0 : Int)), (2, 1), (2, (f2 : Int))], [], _, _, _)
  refine ev_aload_n rfl ?_
  refine ev_aload_n rfl ?_
  refine ev_call (jcall_v (A := [(2, (f2 : Int))]) (S' := []) (r := r0) rfl (g9745.qlt q0) (g9745.qtg q0) (Nat.le_of_ble_eq_true rfl)) (jOk_le (by decide) (s49 g9745 q0 q2)) (by decide) (by decide) (fun w9746 h9746 q9746 => ?_)
  obtain ⟨v9747, rfl, lv9747, uv9747, g9746, kk9746⟩ := q9746
  have k9746 := k9745.tr kk9746 (by decide)
  show jEv _ _ _ _ _ _ _ (_, [(2, (r0 : Int)), (2, 1), (2, (f2 : Int))], [(1, v9747)], _, _, _)
  exact ev_ret rfl (by decide) (by decide) ⟨_, rfl, by omega, by omega, g9746, k9746⟩
/-! 50 askedWorth -/
set_option maxHeartbeats 4000000 in
theorem s50_l {G : GH} {h : JH} {r0 : Nat} {m0 : Int} (q0 : IsQ G r0 m0) {f2 : Nat} (q2 : IsF G f2) {a3 : Int} (la3 : (-2147483648) ≤ a3) (ua3 : a3 ≤ 2147483647) {a4 : Int} (la4 : (-2147483648) ≤ a4) (ua4 : a4 ≤ 2147483647) : ∀ N : Nat, (∀ (h1 : JH) (x5 x7 : Int) (j8 : AV), Gd G h1 → Kp [(1000000, 0)] h h1 → (-2147483648) ≤ a3 → a3 ≤ 2147483647 → (-2147483648) ≤ a4 → a4 ≤ 2147483647 → (-9223372036854775808) ≤ x5 → x5 ≤ 9223372036854775807 → 1 ≤ x7 → x7 ≤ 4 → ((-8) * x7 + 36) < N → jEv (jOk 5) none (fun _ => 0) c50_0 0 0 (PI G [(1000000, 0)] h 1 (-9223372036854775808) 9223372036854775807) (c50_6, [(2, (r0 : Int)), (2, 1), (2, (f2 : Int)), (0, a3), (0, a4), (1, x5), (9, 0), (0, x7), j8], [], h1, 0, 0)) ∧ (∀ (h1 : JH) (x5 x7 x8 : Int), Gd G h1 → Kp [(1000000, 0)] h h1 → 0 ≤ a3 → a3 ≤ 3 → (-2147483648) ≤ a4 → a4 ≤ 2147483647 → (-9223372036854775808) ≤ x5 → x5 ≤ 9223372036854775807 → 1 ≤ x7 → x7 ≤ 3 → 1 ≤ x8 → x8 ≤ 4 → ((-8) * x7 + (-x8) + 36) < N → jEv (jOk 5) none (fun _ => 0) c50_0 0 0 (PI G [(1000000, 0)] h 1 (-9223372036854775808) 9223372036854775807) (c50_41, [(2, (r0 : Int)), (2, 1), (2, (f2 : Int)), (0, a3), (0, a4), (1, x5), (9, 0), (0, x7), (0, x8)], [], h1, 0, 0)) := by
  intro N
  induction N with
  | zero => exact ⟨fun h1 x5 x7 j8 g1 k1 b0 b1 b2 b3 b4 b5 b6 b7 hm => absurd hm (by omega), fun h1 x5 x7 x8 g1 k1 b0 b1 b2 b3 b4 b5 b6 b7 b8 b9 hm => absurd hm (by omega)⟩
  | succ N ih =>
    refine ⟨?_, ?_⟩
    · intro h1 x5 x7 j8 g1 k1 b0 b1 b2 b3 b4 b5 b6 b7 hm
      have wr0 := g1.qb q0
      have zr0 := q0.1
      refine ev_iload rfl ?_
      refine ev_aload_n rfl ?_
      refine ev_iload_n rfl ?_
      refine ev_in (d := 4) (a := 0) (b := 0) (cd' := c141_0) (m := 2) (L0 := [(2, 1), (0, a3)]) (jcall_v (A := [(0, a3)]) (S' := [(0, x7)]) (r := 1) rfl (g1.lt ad1) (g1.tg ad1) (Nat.le_of_ble_eq_true rfl)) (by decide) ml141 pp141 (Nat.le_of_ble_eq_true rfl) rfl (by decide) (by decide) ?_
      refine ev_aload_n rfl ?_
      refine ev_iload_n rfl ?_
      refine ev_in (d := 3) (a := 0) (b := 0) (cd' := c140_0) (m := 2) (L0 := [(2, 1), (0, a3)]) (jcall_v (A := [(0, a3)]) (S' := []) (r := 1) rfl (g1.lt ad1) (g1.tg ad1) (Nat.le_of_ble_eq_true rfl)) (by decide) ml140 pp140 (Nat.le_of_ble_eq_true rfl) rfl (by decide) (by decide) ?_
      refine ev_iload_n rfl ?_
      refine ev_iflt f140_16 (fun c9902 => ?_) (fun c9902 => ?_)
      · refine ev_iconst ?_
        refine ev_ret rfl (by decide) (by decide) ?_
        show jEv _ _ _ _ _ _ _ (_, [(2, 1), (0, a3)], [(0, 0)], _, _, _)
        refine ev_ifeq f141_17 (fun c9903 => ?_) (fun c9903 => absurd c9903 (by omega))
        refine ev_iconst ?_
        refine ev_ret rfl (by decide) (by decide) ?_
        show jEv _ _ _ _ _ _ _ (_, [(2, (r0 : Int)), (2, 1), (2, (f2 : Int)), (0, a3), (0, a4), (1, x5), (9, 0), (0, x7), j8], [(0, 0), (0, x7)], _, _, _)
        refine ev_icmpgt f50_89 (fun c9904 => ?_) (fun c9904 => absurd c9904 (by omega))
        refine ev_lload rfl ?_
        exact ev_ret rfl (by decide) (by decide) ⟨_, rfl, by omega, by omega, g1, k1⟩
      · refine ev_iload_n rfl ?_
        refine ev_aload_n rfl ?_
        obtain ⟨v9905, ev9905, lv9905, uv9905⟩ := g1.rd ad1 (show 0 < 8 by decide) rf1_0
        refine g_getv (r := 1) (v := v9905) g1 ad1 (by decide) ft10_0 ev9905 ?_
        refine ev_icmpge f140_16 (fun c9906 => ?_) (fun c9906 => ?_)
        · refine ev_iconst ?_
          refine ev_ret rfl (by decide) (by decide) ?_
          show jEv _ _ _ _ _ _ _ (_, [(2, 1), (0, a3)], [(0, 0)], _, _, _)
          refine ev_ifeq f141_17 (fun c9907 => ?_) (fun c9907 => absurd c9907 (by omega))
          refine ev_iconst ?_
          refine ev_ret rfl (by decide) (by decide) ?_
          show jEv _ _ _ _ _ _ _ (_, [(2, (r0 : Int)), (2, 1), (2, (f2 : Int)), (0, a3), (0, a4), (1, x5), (9, 0), (0, x7), j8], [(0, 0), (0, x7)], _, _, _)
          refine ev_icmpgt f50_89 (fun c9908 => ?_) (fun c9908 => absurd c9908 (by omega))
          refine ev_lload rfl ?_
          exact ev_ret rfl (by decide) (by decide) ⟨_, rfl, by omega, by omega, g1, k1⟩
        · refine ev_iconst ?_
          refine ev_goto f140_17 ?_
          refine ev_ret rfl (by decide) (by decide) ?_
          show jEv _ _ _ _ _ _ _ (_, [(2, 1), (0, a3)], [(0, 1)], _, _, _)
          refine ev_ifeq f141_17 (fun c9909 => absurd c9909 (by omega)) (fun c9909 => ?_)
          refine ev_aload_n rfl ?_
          refine g_getp (r := 1) (c := 2) g1 ad1 (by decide) (by decide) rf1_3 ft10_3 ?_
          refine ev_iload_n rfl ?_
          refine g_iald g1 ad2 rt2 (by omega) (by omega) (fun v9910 ev9910 lv9910 uv9910 => ?_)
          refine ev_goto f141_18 ?_
          refine ev_ret rfl (by decide) (by decide) ?_
          show jEv _ _ _ _ _ _ _ (_, [(2, (r0 : Int)), (2, 1), (2, (f2 : Int)), (0, a3), (0, a4), (1, x5), (9, 0), (0, x7), j8], [(0, v9910), (0, x7)], _, _, _)
          refine ev_icmpgt f50_89 (fun c9911 => ?_) (fun c9911 => ?_)
          · refine ev_lload rfl ?_
            exact ev_ret rfl (by decide) (by decide) ⟨_, rfl, by omega, by omega, g1, k1⟩
          · refine ev_iload rfl ?_
            refine ev_ifge f50_38 (fun c9912 => ?_) (fun c9912 => ?_)
            · refine ev_iconst ?_
              refine ev_istore (L' := [(2, (r0 : Int)), (2, 1), (2, (f2 : Int)), (0, a3), (0, a4), (1, x5), (9, 0), (0, x7), (0, 1)]) (Nat.le_of_ble_eq_true rfl) rfl ?_
              exact ih.2 _ _ _ _ g1 k1 (by omega) (by omega) (by omega) (by omega) (by omega) (by omega) (by omega) (by omega) (by omega) (by omega) (by omega)
            · refine ev_lload rfl ?_
              refine ev_aload_n rfl ?_
              refine ev_aload_n rfl ?_
              refine ev_aload_n rfl ?_
              refine ev_iload rfl ?_
              refine ev_iconst ?_
              refine ev_iload_n rfl ?_
              refine ev_imul (r := (2 * a3)) (by unfold w32; omega) ?_
              refine g_ishlB (a' := 1) (a := 3) (b := 6) (hi := 192) (by omega) (by omega) (by omega) (by omega) (by decide) (by decide) (fun v9913 ev9913 lv9913 uv9913 => ?_)
              refine ev_call (jcall_v (A := [(0, v9913), (2, (f2 : Int)), (2, 1)]) (S' := [(1, x5)]) (r := r0) rfl (g1.qlt q0) (g1.qtg q0) (Nat.le_of_ble_eq_true rfl)) (jOk_le (by decide) (s47 g1 q0 q2 (by omega) (by omega))) (by decide) (by decide) (fun w9914 h9914 q9914 => ?_)
              obtain ⟨v9915, rfl, lv9915, uv9915, g9914, kk9914⟩ := q9914
              have k9914 := k1.tr kk9914 (by decide)
              show jEv _ _ _ _ _ _ _ (_, [(2, (r0 : Int)), (2, 1), (2, (f2 : Int)), (0, a3), (0, a4), (1, x5), (9, 0), (0, x7), j8], [(1, v9915), (1, x5)], _, _, _)
              refine g_laddG (fun v9916 ev9916 lv9916 uv9916 => ?_)
              refine ev_lstore (L' := [(2, (r0 : Int)), (2, 1), (2, (f2 : Int)), (0, a3), (0, a4), (1, v9916), (9, 0), (0, x7), j8]) (Nat.le_of_ble_eq_true rfl) rfl ?_
              refine ev_iconst ?_
              refine ev_istore (L' := [(2, (r0 : Int)), (2, 1), (2, (f2 : Int)), (0, a3), (0, a4), (1, v9916), (9, 0), (0, x7), (0, 1)]) (Nat.le_of_ble_eq_true rfl) rfl ?_
              exact ih.2 _ _ _ _ g9914 k9914 (by omega) (by omega) (by omega) (by omega) (by omega) (by omega) (by omega) (by omega) (by omega) (by omega) (by omega)
    · intro h1 x5 x7 x8 g1 k1 b0 b1 b2 b3 b4 b5 b6 b7 b8 b9 hm
      have wr0 := g1.qb q0
      have zr0 := q0.1
      refine ev_iload rfl ?_
      refine ev_aload_n rfl ?_
      refine ev_iload rfl ?_
      refine ev_in (d := 4) (a := 0) (b := 0) (cd' := c141_0) (m := 2) (L0 := [(2, 1), (0, a4)]) (jcall_v (A := [(0, a4)]) (S' := [(0, x8)]) (r := 1) rfl (g1.lt ad1) (g1.tg ad1) (Nat.le_of_ble_eq_true rfl)) (by decide) ml141 pp141 (Nat.le_of_ble_eq_true rfl) rfl (by decide) (by decide) ?_
      refine ev_aload_n rfl ?_
      refine ev_iload_n rfl ?_
      refine ev_in (d := 3) (a := 0) (b := 0) (cd' := c140_0) (m := 2) (L0 := [(2, 1), (0, a4)]) (jcall_v (A := [(0, a4)]) (S' := []) (r := 1) rfl (g1.lt ad1) (g1.tg ad1) (Nat.le_of_ble_eq_true rfl)) (by decide) ml140 pp140 (Nat.le_of_ble_eq_true rfl) rfl (by decide) (by decide) ?_
      refine ev_iload_n rfl ?_
      refine ev_iflt f140_16 (fun c9917 => ?_) (fun c9917 => ?_)
      · refine ev_iconst ?_
        refine ev_ret rfl (by decide) (by decide) ?_
        show jEv _ _ _ _ _ _ _ (_, [(2, 1), (0, a4)], [(0, 0)], _, _, _)
        refine ev_ifeq f141_17 (fun c9918 => ?_) (fun c9918 => absurd c9918 (by omega))
        refine ev_iconst ?_
        refine ev_ret rfl (by decide) (by decide) ?_
        show jEv _ _ _ _ _ _ _ (_, [(2, (r0 : Int)), (2, 1), (2, (f2 : Int)), (0, a3), (0, a4), (1, x5), (9, 0), (0, x7), (0, x8)], [(0, 0), (0, x8)], _, _, _)
        refine ev_icmpgt f50_83 (fun c9919 => ?_) (fun c9919 => absurd c9919 (by omega))
        refine ev_iinc (w := (x7 + 1)) (L' := [(2, (r0 : Int)), (2, 1), (2, (f2 : Int)), (0, a3), (0, a4), (1, x5), (9, 0), (0, (x7 + 1)), (0, x8)]) rfl (by unfold w32; omega) rfl ?_
        refine ev_goto f50_6 ?_
        exact ih.1 _ _ _ _ g1 k1 (by omega) (by omega) (by omega) (by omega) (by omega) (by omega) (by omega) (by omega) (by omega)
      · refine ev_iload_n rfl ?_
        refine ev_aload_n rfl ?_
        obtain ⟨v9920, ev9920, lv9920, uv9920⟩ := g1.rd ad1 (show 0 < 8 by decide) rf1_0
        refine g_getv (r := 1) (v := v9920) g1 ad1 (by decide) ft10_0 ev9920 ?_
        refine ev_icmpge f140_16 (fun c9921 => ?_) (fun c9921 => ?_)
        · refine ev_iconst ?_
          refine ev_ret rfl (by decide) (by decide) ?_
          show jEv _ _ _ _ _ _ _ (_, [(2, 1), (0, a4)], [(0, 0)], _, _, _)
          refine ev_ifeq f141_17 (fun c9922 => ?_) (fun c9922 => absurd c9922 (by omega))
          refine ev_iconst ?_
          refine ev_ret rfl (by decide) (by decide) ?_
          show jEv _ _ _ _ _ _ _ (_, [(2, (r0 : Int)), (2, 1), (2, (f2 : Int)), (0, a3), (0, a4), (1, x5), (9, 0), (0, x7), (0, x8)], [(0, 0), (0, x8)], _, _, _)
          refine ev_icmpgt f50_83 (fun c9923 => ?_) (fun c9923 => absurd c9923 (by omega))
          refine ev_iinc (w := (x7 + 1)) (L' := [(2, (r0 : Int)), (2, 1), (2, (f2 : Int)), (0, a3), (0, a4), (1, x5), (9, 0), (0, (x7 + 1)), (0, x8)]) rfl (by unfold w32; omega) rfl ?_
          refine ev_goto f50_6 ?_
          exact ih.1 _ _ _ _ g1 k1 (by omega) (by omega) (by omega) (by omega) (by omega) (by omega) (by omega) (by omega) (by omega)
        · refine ev_iconst ?_
          refine ev_goto f140_17 ?_
          refine ev_ret rfl (by decide) (by decide) ?_
          show jEv _ _ _ _ _ _ _ (_, [(2, 1), (0, a4)], [(0, 1)], _, _, _)
          refine ev_ifeq f141_17 (fun c9924 => absurd c9924 (by omega)) (fun c9924 => ?_)
          refine ev_aload_n rfl ?_
          refine g_getp (r := 1) (c := 2) g1 ad1 (by decide) (by decide) rf1_3 ft10_3 ?_
          refine ev_iload_n rfl ?_
          refine g_iald g1 ad2 rt2 (by omega) (by omega) (fun v9925 ev9925 lv9925 uv9925 => ?_)
          refine ev_goto f141_18 ?_
          refine ev_ret rfl (by decide) (by decide) ?_
          show jEv _ _ _ _ _ _ _ (_, [(2, (r0 : Int)), (2, 1), (2, (f2 : Int)), (0, a3), (0, a4), (1, x5), (9, 0), (0, x7), (0, x8)], [(0, v9925), (0, x8)], _, _, _)
          refine ev_icmpgt f50_83 (fun c9926 => ?_) (fun c9926 => ?_)
          · refine ev_iinc (w := (x7 + 1)) (L' := [(2, (r0 : Int)), (2, 1), (2, (f2 : Int)), (0, a3), (0, a4), (1, x5), (9, 0), (0, (x7 + 1)), (0, x8)]) rfl (by unfold w32; omega) rfl ?_
            refine ev_goto f50_6 ?_
            exact ih.1 _ _ _ _ g1 k1 (by omega) (by omega) (by omega) (by omega) (by omega) (by omega) (by omega) (by omega) (by omega)
          · refine ev_lload rfl ?_
            refine ev_aload_n rfl ?_
            refine ev_aload_n rfl ?_
            refine ev_aload_n rfl ?_
            refine ev_iload rfl ?_
            refine ev_iconst ?_
            refine ev_iload_n rfl ?_
            refine ev_imul (r := (2 * a3)) (by unfold w32; omega) ?_
            refine g_ishlB (a' := 1) (a := 3) (b := 6) (hi := 192) (by omega) (by omega) (by omega) (by omega) (by decide) (by decide) (fun v9927 ev9927 lv9927 uv9927 => ?_)
            refine ev_iload rfl ?_
            refine ev_iconst ?_
            refine ev_iload rfl ?_
            refine ev_imul (r := (2 * a4)) (by unfold w32; omega) ?_
            refine g_ishlB (a' := 1) (a := 3) (b := 6) (hi := 192) (by omega) (by omega) (by omega) (by omega) (by decide) (by decide) (fun v9928 ev9928 lv9928 uv9928 => ?_)
            refine g_iorB (k := 8) (hi := 255) (by decide) (by decide) (by omega) (by omega) (by omega) (by omega) (fun v9929 ev9929 lv9929 uv9929 => ?_)
            refine ev_call (jcall_v (A := [(0, v9929), (2, (f2 : Int)), (2, 1)]) (S' := [(1, x5)]) (r := r0) rfl (g1.qlt q0) (g1.qtg q0) (Nat.le_of_ble_eq_true rfl)) (jOk_le (by decide) (s47 g1 q0 q2 (by omega) (by omega))) (by decide) (by decide) (fun w9930 h9930 q9930 => ?_)
            obtain ⟨v9931, rfl, lv9931, uv9931, g9930, kk9930⟩ := q9930
            have k9930 := k1.tr kk9930 (by decide)
            show jEv _ _ _ _ _ _ _ (_, [(2, (r0 : Int)), (2, 1), (2, (f2 : Int)), (0, a3), (0, a4), (1, x5), (9, 0), (0, x7), (0, x8)], [(1, v9931), (1, x5)], _, _, _)
            refine g_laddG (fun v9932 ev9932 lv9932 uv9932 => ?_)
            refine ev_lstore (L' := [(2, (r0 : Int)), (2, 1), (2, (f2 : Int)), (0, a3), (0, a4), (1, v9932), (9, 0), (0, x7), (0, x8)]) (Nat.le_of_ble_eq_true rfl) rfl ?_
            refine ev_iinc (w := (x8 + 1)) (L' := [(2, (r0 : Int)), (2, 1), (2, (f2 : Int)), (0, a3), (0, a4), (1, v9932), (9, 0), (0, x7), (0, (x8 + 1))]) rfl (by unfold w32; omega) rfl ?_
            refine ev_goto f50_41 ?_
            exact ih.2 _ _ _ _ g9930 k9930 (by omega) (by omega) (by omega) (by omega) (by omega) (by omega) (by omega) (by omega) (by omega) (by omega) (by omega)
set_option maxHeartbeats 4000000 in
theorem s50 {G : GH} {h : JH} (g : Gd G h) {r0 : Nat} {m0 : Int} (q0 : IsQ G r0 m0) {f2 : Nat} (q2 : IsF G f2) {a3 : Int} (la3 : (-2147483648) ≤ a3) (ua3 : a3 ≤ 2147483647) {a4 : Int} (la4 : (-2147483648) ≤ a4) (ua4 : a4 ≤ 2147483647) : jOk 6 0 0 50 [(2, (r0 : Int)), (2, 1), (2, (f2 : Int)), (0, a3), (0, a4)] h (PI G [(1000000, 0)] h 1 (-9223372036854775808) 9223372036854775807) := by
  refine ⟨by decide, by rw [ml50]; exact Nat.le_of_ble_eq_true rfl, ?_⟩
  rw [ml50, pp50]
  show jEv _ none _ c50_0 0 0 _ (c50_0, [(2, (r0 : Int)), (2, 1), (2, (f2 : Int)), (0, a3), (0, a4), (9, 0), (9, 0), (9, 0), (9, 0)], [], h, 0, 0)
  have k0 := Kp.rf [(1000000, 0)] h
  have wr0 := g.qb q0
  have zr0 := q0.1
  refine ev_lconst ?_
  refine ev_lstore (L' := [(2, (r0 : Int)), (2, 1), (2, (f2 : Int)), (0, a3), (0, a4), (1, 0), (9, 0), (9, 0), (9, 0)]) (Nat.le_of_ble_eq_true rfl) rfl ?_
  refine ev_iconst ?_
  refine ev_istore (L' := [(2, (r0 : Int)), (2, 1), (2, (f2 : Int)), (0, a3), (0, a4), (1, 0), (9, 0), (0, 1), (9, 0)]) (Nat.le_of_ble_eq_true rfl) rfl ?_
  exact (s50_l q0 q2 la3 ua3 la4 ua4 64).1 _ _ _ _ g k0 (by omega) (by omega) (by omega) (by omega) (by omega) (by omega) (by omega) (by omega) (by omega)
/-! 52 greatestValue -/
set_option maxHeartbeats 4000000 in
theorem s52_l {G : GH} {h : JH} {r0 : Nat} {m0 : Int} (q0 : IsQ G r0 m0) {a1 : Int} (la1 : (-2147483648) ≤ a1) (ua1 : a1 ≤ 2147483647) : ∀ N : Nat, (∀ (h1 : JH) (x2 : Int), Gd G h1 → Kp [(1000000, 0)] h h1 → (-2147483648) ≤ a1 → a1 ≤ 2147483647 → (-1) ≤ x2 → x2 ≤ 99 → x2 ≤ m0 - 1 → (x2 + 1) < N → jEv (jOk 2) none (fun _ => 0) c52_0 0 0 (PI G [(1000000, 0)] h 0 (-2147483648) 2147483647) (c52_7, [(2, (r0 : Int)), (0, a1), (0, x2)], [], h1, 0, 0)) := by
  intro N
  induction N with
  | zero => exact fun h1 x2 g1 k1 b0 b1 b2 b3 b4 hm => absurd hm (by omega)
  | succ N ih =>
    show _
    intro h1 x2 g1 k1 b0 b1 b2 b3 b4 hm
    have wr0 := g1.qb q0
    have zr0 := q0.1
    refine ev_iload_n rfl ?_
    refine ev_iflt f52_113 (fun c9979 => ?_) (fun c9979 => ?_)
    · refine ev_aload_n rfl ?_
      refine g_qgetp g1 q0 (c := 12) (by decide) (by decide) ft4_12 ?_
      refine ev_iconst ?_
      refine g_qlald g1 q0 (c := 12) (by decide) (by decide) (by decide) (by omega) (by show 0 < m0; omega) rfl (fun v9980 ev9980 lv9980 uv9980 => ?_)
      refine g_l2iG (fun v9981 ev9981 lv9981 uv9981 => ?_)
      exact ev_ret rfl (by decide) (by decide) ⟨_, rfl, by omega, by omega, g1, k1⟩
    · refine ev_aload_n rfl ?_
      refine g_qgetp g1 q0 (c := 2) (by decide) (by decide) ft4_2 ?_
      refine ev_iload_n rfl ?_
      refine g_qiald g1 q0 (c := 2) (by decide) (by decide) (by decide) (by omega) (by show x2 < m0; omega) rfl (fun v9982 ev9982 lv9982 uv9982 => ?_)
      refine ev_ifne f52_43 (fun c9983 => ?_) (fun c9983 => ?_)
      · refine ev_aload_n rfl ?_
        refine g_qgetp g1 q0 (c := 2) (by decide) (by decide) ft4_2 ?_
        refine ev_iload_n rfl ?_
        refine g_qialdv (v := v9982) g1 q0 (c := 2) (by decide) (by decide) (by decide) (by omega) (by show x2 < m0; omega) (ev9982) ?_
        refine ev_iconst ?_
        refine ev_icmpne f52_79 (fun c9984 => ?_) (fun c9984 => ?_)
        · refine ev_aload_n rfl ?_
          refine g_qgetp g1 q0 (c := 12) (by decide) (by decide) ft4_12 ?_
          refine ev_iload_n rfl ?_
          refine ev_aload_n rfl ?_
          refine g_qgetp g1 q0 (c := 12) (by decide) (by decide) ft4_12 ?_
          refine ev_aload_n rfl ?_
          refine ev_iload_n rfl ?_
          refine ev_iload_n rfl ?_
          refine ev_iconst ?_
          refine ev_aload_n rfl ?_
          refine g_qgetp g1 q0 (c := 3) (by decide) (by decide) ft4_3 ?_
          refine ev_iload_n rfl ?_
          refine g_qiald g1 q0 (c := 3) (by decide) (by decide) (by decide) (by omega) (by show x2 < m0; omega) rfl (fun v9985 ev9985 lv9985 uv9985 => ?_)
          refine g_imulG (fun v9986 ev9986 lv9986 uv9986 => ?_)
          refine g_ishrG (fun v9987 ev9987 lv9987 uv9987 => ?_)
          refine ev_iconst ?_
          refine g_iandB (b := 3) (by omega) (by omega) (by decide) (fun v9988 ev9988 lv9988 uv9988 => ?_)
          refine ev_in (d := 1) (a := 0) (b := 0) (cd' := c30_0) (m := 3) (L0 := [(2, (r0 : Int)), (0, x2), (0, v9988)]) (jcall_v (A := [(0, v9988), (0, x2)]) (S' := [(2, ((r0 + 11 : Nat) : Int)), (0, x2), (2, ((r0 + 11 : Nat) : Int))]) (r := r0) rfl (g1.qlt q0) (g1.qtg q0) (Nat.le_of_ble_eq_true rfl)) (by decide) ml30 pp30 (Nat.le_of_ble_eq_true rfl) rfl (by decide) (by decide) ?_
          refine ev_aload_n rfl ?_
          refine g_qgetp g1 q0 (c := 5) (by decide) (by decide) ft4_5 ?_
          refine ev_iconst ?_
          refine ev_iload_n rfl ?_
          refine ev_imul (r := (4 * x2)) (by unfold w32; omega) ?_
          refine ev_iload_n rfl ?_
          refine ev_iadd (r := (v9988 + 4 * x2)) (by unfold w32; omega) ?_
          refine g_qiald g1 q0 (c := 5) (by decide) (by decide) (by decide) (by omega) (by show (v9988 + 4 * x2) < 4 * m0; omega) rfl (fun v9989 ev9989 lv9989 uv9989 => ?_)
          refine ev_ret rfl (by decide) (by decide) ?_
          show jEv _ _ _ _ _ _ _ (_, [(2, (r0 : Int)), (0, a1), (0, x2)], [(0, v9989), (2, ((r0 + 11 : Nat) : Int)), (0, x2), (2, ((r0 + 11 : Nat) : Int))], _, _, _)
          refine g_qlald g1 q0 (c := 12) (by decide) (by decide) (by decide) (by omega) (by show v9989 < m0; omega) rfl (fun v9990 ev9990 lv9990 uv9990 => ?_)
          refine g_qlast g1 q0 (c := 12) (by decide) (by decide) (by decide) (by omega) (by show x2 < m0; omega) rfl (by omega) (by omega) (fun h9991 e9991 g9991 => ?_)
          have k9991 := k1.wr e9991 (inW_dyn rfl (by have := q0.1; omega))
          refine ev_iinc (w := (x2 - 1)) (L' := [(2, (r0 : Int)), (0, a1), (0, (x2 - 1))]) rfl (by unfold w32; omega) rfl ?_
          refine ev_goto f52_7 ?_
          exact ih _ _ g9991 k9991 (by omega) (by omega) (by omega) (by omega) (by omega) (by omega)
        · refine ev_aload_n rfl ?_
          refine g_qgetp g1 q0 (c := 12) (by decide) (by decide) ft4_12 ?_
          refine ev_iload_n rfl ?_
          refine ev_aload_n rfl ?_
          refine g_qgetp g1 q0 (c := 12) (by decide) (by decide) ft4_12 ?_
          refine ev_aload_n rfl ?_
          refine ev_iload_n rfl ?_
          refine ev_aload_n rfl ?_
          refine ev_iload_n rfl ?_
          refine ev_iconst ?_
          refine ev_lconst ?_
          refine ev_call (jcall_v (A := [(1, 0), (0, (-1)), (0, x2)]) (S' := [(0, x2), (2, (r0 : Int)), (2, ((r0 + 11 : Nat) : Int)), (0, x2), (2, ((r0 + 11 : Nat) : Int))]) (r := r0) rfl (g1.qlt q0) (g1.qtg q0) (Nat.le_of_ble_eq_true rfl)) (jOk_le (by decide) (s45 g1 q0 (by omega) (by omega) (by omega) (by omega) (by omega) (by omega))) (by decide) (by decide) (fun w9992 h9992 q9992 => ?_)
          obtain ⟨v9993, rfl, lv9993, uv9993, g9992, kk9992⟩ := q9992
          have k9992 := k1.tr kk9992 (by decide)
          show jEv _ _ _ _ _ _ _ (_, [(2, (r0 : Int)), (0, a1), (0, x2)], [(0, v9993), (0, x2), (2, (r0 : Int)), (2, ((r0 + 11 : Nat) : Int)), (0, x2), (2, ((r0 + 11 : Nat) : Int))], _, _, _)
          refine ev_in (d := 1) (a := 0) (b := 0) (cd' := c30_0) (m := 3) (L0 := [(2, (r0 : Int)), (0, x2), (0, v9993)]) (jcall_v (A := [(0, v9993), (0, x2)]) (S' := [(2, ((r0 + 11 : Nat) : Int)), (0, x2), (2, ((r0 + 11 : Nat) : Int))]) (r := r0) rfl (g9992.qlt q0) (g9992.qtg q0) (Nat.le_of_ble_eq_true rfl)) (by decide) ml30 pp30 (Nat.le_of_ble_eq_true rfl) rfl (by decide) (by decide) ?_
          refine ev_aload_n rfl ?_
          refine g_qgetp g9992 q0 (c := 5) (by decide) (by decide) ft4_5 ?_
          refine ev_iconst ?_
          refine ev_iload_n rfl ?_
          refine ev_imul (r := (4 * x2)) (by unfold w32; omega) ?_
          refine ev_iload_n rfl ?_
          refine ev_iadd (r := (v9993 + 4 * x2)) (by unfold w32; omega) ?_
          refine g_qiald g9992 q0 (c := 5) (by decide) (by decide) (by decide) (by omega) (by show (v9993 + 4 * x2) < 4 * m0; omega) rfl (fun v9994 ev9994 lv9994 uv9994 => ?_)
          refine ev_ret rfl (by decide) (by decide) ?_
          show jEv _ _ _ _ _ _ _ (_, [(2, (r0 : Int)), (0, a1), (0, x2)], [(0, v9994), (2, ((r0 + 11 : Nat) : Int)), (0, x2), (2, ((r0 + 11 : Nat) : Int))], _, _, _)
          refine g_qlald g9992 q0 (c := 12) (by decide) (by decide) (by decide) (by omega) (by show v9994 < m0; omega) rfl (fun v9995 ev9995 lv9995 uv9995 => ?_)
          refine g_qlast g9992 q0 (c := 12) (by decide) (by decide) (by decide) (by omega) (by show x2 < m0; omega) rfl (by omega) (by omega) (fun h9996 e9996 g9996 => ?_)
          have k9996 := k9992.wr e9996 (inW_dyn rfl (by have := q0.1; omega))
          refine ev_goto f52_107 ?_
          refine ev_iinc (w := (x2 - 1)) (L' := [(2, (r0 : Int)), (0, a1), (0, (x2 - 1))]) rfl (by unfold w32; omega) rfl ?_
          refine ev_goto f52_7 ?_
          exact ih _ _ g9996 k9996 (by omega) (by omega) (by omega) (by omega) (by omega) (by omega)
      · refine ev_aload_n rfl ?_
        refine g_qgetp g1 q0 (c := 12) (by decide) (by decide) ft4_12 ?_
        refine ev_iload_n rfl ?_
        refine ev_aload_n rfl ?_
        refine g_qgetp g1 q0 (c := 3) (by decide) (by decide) ft4_3 ?_
        refine ev_iload_n rfl ?_
        refine g_qiald g1 q0 (c := 3) (by decide) (by decide) (by decide) (by omega) (by show x2 < m0; omega) rfl (fun v9997 ev9997 lv9997 uv9997 => ?_)
        refine ev_aload_n rfl ?_
        refine g_qgetp g1 q0 (c := 11) (by decide) (by decide) ft4_11 ?_
        refine ev_iload_n rfl ?_
        refine g_qiald g1 q0 (c := 11) (by decide) (by decide) (by decide) (by omega) (by show x2 < m0; omega) rfl (fun v9998 ev9998 lv9998 uv9998 => ?_)
        refine g_isubG (fun v9999 ev9999 lv9999 uv9999 => ?_)
        refine ev_i2l ?_
        refine g_qlast g1 q0 (c := 12) (by decide) (by decide) (by decide) (by omega) (by show x2 < m0; omega) rfl (by omega) (by omega) (fun h10000 e10000 g10000 => ?_)
        have k10000 := k1.wr e10000 (inW_dyn rfl (by have := q0.1; omega))
        refine ev_goto f52_107 ?_
        refine ev_iinc (w := (x2 - 1)) (L' := [(2, (r0 : Int)), (0, a1), (0, (x2 - 1))]) rfl (by unfold w32; omega) rfl ?_
        refine ev_goto f52_7 ?_
        exact ih _ _ g10000 k10000 (by omega) (by omega) (by omega) (by omega) (by omega) (by omega)
set_option maxHeartbeats 4000000 in
theorem s52 {G : GH} {h : JH} (g : Gd G h) {r0 : Nat} {m0 : Int} (q0 : IsQ G r0 m0) {a1 : Int} (la1 : (-2147483648) ≤ a1) (ua1 : a1 ≤ 2147483647) : jOk 3 0 0 52 [(2, (r0 : Int)), (0, a1)] h (PI G [(1000000, 0)] h 0 (-2147483648) 2147483647) := by
  refine ⟨by decide, by rw [ml52]; exact Nat.le_of_ble_eq_true rfl, ?_⟩
  rw [ml52, pp52]
  show jEv _ none _ c52_0 0 0 _ (c52_0, [(2, (r0 : Int)), (0, a1), (9, 0)], [], h, 0, 0)
  have k0 := Kp.rf [(1000000, 0)] h
  have wr0 := g.qb q0
  have zr0 := q0.1
  refine ev_aload_n rfl ?_
  obtain ⟨v10001, ev10001, lv10001, uv10001⟩ := g.q0 q0
  refine g_qgetv (v := v10001) g q0 ft4_0 ev10001 ?_
  refine ev_iconst ?_
  refine ev_isub (r := (v10001 - 1)) (by unfold w32; omega) ?_
  refine ev_istore_n (L' := [(2, (r0 : Int)), (0, a1), (0, (v10001 - 1))]) (Nat.le_of_ble_eq_true rfl) rfl ?_
  exact (s52_l q0 la1 ua1 202) _ _ g k0 (by omega) (by omega) (by omega) (by omega) (by omega) (by omega)
/-! 51 couldHave -/
set_option maxHeartbeats 4000000 in
theorem s51_l {G : GH} {h : JH} {r0 : Nat} {m0 : Int} (q0 : IsQ G r0 m0) {f2 : Nat} (q2 : IsF G f2) : ∀ N : Nat, (∀ (h1 : JH) (x3 x5 x6 : Int), Gd G h1 → Kp [(1000000, 0)] h h1 → (-9223372036854775808) ≤ x3 → x3 ≤ 9223372036854775807 → 0 ≤ x5 → x5 ≤ 85 → 0 ≤ x6 → x6 ≤ 256 → ((-x6) + 256) < N → jEv (jOk 3) none (fun _ => 0) c51_0 0 0 (PI G [(1000000, 0)] h 1 (-9223372036854775808) 9223372036854775807) (c51_15, [(2, (r0 : Int)), (2, 1), (2, (f2 : Int)), (1, x3), (9, 0), (0, x5), (0, x6)], [], h1, 0, 0)) := by
  intro N
  induction N with
  | zero => exact fun h1 x3 x5 x6 g1 k1 b0 b1 b2 b3 b4 b5 hm => absurd hm (by omega)
  | succ N ih =>
    show _
    intro h1 x3 x5 x6 g1 k1 b0 b1 b2 b3 b4 b5 hm
    have wr0 := g1.qb q0
    have zr0 := q0.1
    refine ev_iload rfl ?_
    refine ev_aload_n rfl ?_
    refine ev_in (d := 2) (a := 0) (b := 0) (cd' := c157_0) (m := 1) (L0 := [(2, 1)]) (jcall_v (A := []) (S' := [(0, x6)]) (r := 1) rfl (g1.lt ad1) (g1.tg ad1) (Nat.le_of_ble_eq_true rfl)) (by decide) ml157 pp157 (Nat.le_of_ble_eq_true rfl) rfl (by decide) (by decide) ?_
    refine ev_iconst ?_
    refine ev_iconst ?_
    refine ev_aload_n rfl ?_
    obtain ⟨v10987, ev10987, lv10987, uv10987⟩ := g1.rd ad1 (show 0 < 8 by decide) rf1_0
    refine g_getv (r := 1) (v := v10987) g1 ad1 (by decide) ft10_0 ev10987 ?_
    refine ev_imul (r := (2 * v10987)) (by unfold w32; omega) ?_
    refine g_ishlB (a' := 1) (a := 1) (b := 8) (hi := 256) (by omega) (by omega) (by omega) (by omega) (by decide) (by decide) (fun v10988 ev10988 lv10988 uv10988 => ?_)
    refine ev_ret rfl (by decide) (by decide) ?_
    show jEv _ _ _ _ _ _ _ (_, [(2, (r0 : Int)), (2, 1), (2, (f2 : Int)), (1, x3), (9, 0), (0, x5), (0, x6)], [(0, v10988), (0, x6)], _, _, _)
    refine ev_icmpge f51_63 (fun c10989 => ?_) (fun c10989 => ?_)
    · refine ev_lload_n rfl ?_
      exact ev_ret rfl (by decide) (by decide) ⟨_, rfl, by omega, by omega, g1, k1⟩
    · refine ev_aload_n rfl ?_
      refine ev_iload rfl ?_
      refine ev_call (jcall_v (A := [(0, x6)]) (S' := []) (r := 1) rfl (g1.lt ad1) (g1.tg ad1) (Nat.le_of_ble_eq_true rfl)) (jOk_le (by decide) (s159 g1 (by omega) (by omega))) (by decide) (by decide) (fun w10990 h10990 q10990 => ?_)
      obtain ⟨v10991, rfl, lv10991, uv10991, g10990, kk10990⟩ := q10990
      have k10990 := k1.tr kk10990 (by decide)
      show jEv _ _ _ _ _ _ _ (_, [(2, (r0 : Int)), (2, 1), (2, (f2 : Int)), (1, x3), (9, 0), (0, x5), (0, x6)], [(0, v10991)], _, _, _)
      refine ev_ifeq f51_57 (fun c10992 => ?_) (fun c10992 => ?_)
      · refine ev_iinc (w := (x6 + 1)) (L' := [(2, (r0 : Int)), (2, 1), (2, (f2 : Int)), (1, x3), (9, 0), (0, x5), (0, (x6 + 1))]) rfl (by unfold w32; omega) rfl ?_
        refine ev_goto f51_15 ?_
        exact ih _ _ _ _ g10990 k10990 (by omega) (by omega) (by omega) (by omega) (by omega) (by omega) (by omega)
      · refine ev_lload_n rfl ?_
        refine ev_aload_n rfl ?_
        refine ev_iload rfl ?_
        refine ev_iload rfl ?_
        refine ev_iadd (r := (x5 + x6)) (by unfold w32; omega) ?_
        refine ev_in (d := 2) (a := 0) (b := 0) (cd' := c161_0) (m := 2) (L0 := [(2, 1), (0, (x5 + x6))]) (jcall_v (A := [(0, (x5 + x6))]) (S' := [(1, x3)]) (r := 1) rfl (g10990.lt ad1) (g10990.tg ad1) (Nat.le_of_ble_eq_true rfl)) (by decide) ml161 pp161 (Nat.le_of_ble_eq_true rfl) rfl (by decide) (by decide) ?_
        refine ev_iload_n rfl ?_
        refine ev_iflt f161_12 (fun c10993 => absurd c10993 (by omega)) (fun c10993 => ?_)
        refine ev_iload_n rfl ?_
        refine ev_aload_n rfl ?_
        refine ev_in (d := 1) (a := 0) (b := 0) (cd' := c157_0) (m := 1) (L0 := [(2, 1)]) (jcall_v (A := []) (S' := [(0, (x5 + x6))]) (r := 1) rfl (g10990.lt ad1) (g10990.tg ad1) (Nat.le_of_ble_eq_true rfl)) (by decide) ml157 pp157 (Nat.le_of_ble_eq_true rfl) rfl (by decide) (by decide) ?_
        refine ev_iconst ?_
        refine ev_iconst ?_
        refine ev_aload_n rfl ?_
        refine g_getv (r := 1) (v := v10987) g10990 ad1 (by decide) ft10_0 (((kk10990.v (by decide)).trans ev10987)) ?_
        refine ev_imul (r := (2 * v10987)) (by unfold w32; omega) ?_
        refine g_ishlB (a' := 1) (a := 1) (b := 8) (hi := 256) (by omega) (by omega) (by omega) (by omega) (by decide) (by decide) (fun v10994 ev10994 lv10994 uv10994 => ?_)
        refine ev_ret rfl (by decide) (by decide) ?_
        show jEv _ _ _ _ _ _ _ (_, [(2, 1), (0, (x5 + x6))], [(0, v10994), (0, (x5 + x6))], _, _, _)
        refine ev_icmplt f161_16 (fun c10995 => ?_) (fun c10995 => ?_)
        · refine ev_aload_n rfl ?_
          refine g_getp (r := 1) (c := 6) g10990 ad1 (by decide) (by decide) rf1_7 ft10_7 ?_
          refine ev_iload_n rfl ?_
          refine g_lald g10990 ad6 rt6 (by omega) (by omega) (fun v10996 ev10996 lv10996 uv10996 => ?_)
          refine ev_ret rfl (by decide) (by decide) ?_
          show jEv _ _ _ _ _ _ _ (_, [(2, (r0 : Int)), (2, 1), (2, (f2 : Int)), (1, x3), (9, 0), (0, x5), (0, x6)], [(1, v10996), (1, x3)], _, _, _)
          refine ev_aload_n rfl ?_
          refine ev_aload_n rfl ?_
          refine ev_iload rfl ?_
          refine ev_call (jcall_v (A := [(0, x6)]) (S' := [(2, (f2 : Int)), (1, v10996), (1, x3)]) (r := r0) rfl (g10990.qlt q0) (g10990.qtg q0) (Nat.le_of_ble_eq_true rfl)) (jOk_le (by decide) (s52 g10990 q0 (by omega) (by omega))) (by decide) (by decide) (fun w10997 h10997 q10997 => ?_)
          obtain ⟨v10998, rfl, lv10998, uv10998, g10997, kk10997⟩ := q10997
          have k10997 := k10990.tr kk10997 (by decide)
          show jEv _ _ _ _ _ _ _ (_, [(2, (r0 : Int)), (2, 1), (2, (f2 : Int)), (1, x3), (9, 0), (0, x5), (0, x6)], [(0, v10998), (2, (f2 : Int)), (1, v10996), (1, x3)], _, _, _)
          refine ev_callF (A := [(0, v10998)]) (S' := [(1, v10996), (1, x3)]) (r := f2) rfl (g10997.flt q2) (g10997.ffam q2) (Nat.le_of_ble_eq_true rfl) (famL (by decide) (fam_measure g10997 q2 (by omega) (by omega))) (by decide) (by decide) (fun w10999 h10999 q10999 => ?_)
          obtain ⟨v11000, rfl, lv11000, uv11000, g10999, kk10999⟩ := q10999
          have k10999 := k10997.tr kk10999 (by decide)
          show jEv _ _ _ _ _ _ _ (_, [(2, (r0 : Int)), (2, 1), (2, (f2 : Int)), (1, x3), (9, 0), (0, x5), (0, x6)], [(0, v11000), (1, v10996), (1, x3)], _, _, _)
          refine ev_i2l ?_
          refine g_lmulG (fun v11001 ev11001 lv11001 uv11001 => ?_)
          refine g_laddG (fun v11002 ev11002 lv11002 uv11002 => ?_)
          refine ev_lstore_n (L' := [(2, (r0 : Int)), (2, 1), (2, (f2 : Int)), (1, v11002), (9, 0), (0, x5), (0, x6)]) (Nat.le_of_ble_eq_true rfl) rfl ?_
          refine ev_iinc (w := (x6 + 1)) (L' := [(2, (r0 : Int)), (2, 1), (2, (f2 : Int)), (1, v11002), (9, 0), (0, x5), (0, (x6 + 1))]) rfl (by unfold w32; omega) rfl ?_
          refine ev_goto f51_15 ?_
          exact ih _ _ _ _ g10999 k10999 (by omega) (by omega) (by omega) (by omega) (by omega) (by omega) (by omega)
        · refine ev_lconst ?_
          refine ev_goto f161_22 ?_
          refine ev_ret rfl (by decide) (by decide) ?_
          show jEv _ _ _ _ _ _ _ (_, [(2, (r0 : Int)), (2, 1), (2, (f2 : Int)), (1, x3), (9, 0), (0, x5), (0, x6)], [(1, 0), (1, x3)], _, _, _)
          refine ev_aload_n rfl ?_
          refine ev_aload_n rfl ?_
          refine ev_iload rfl ?_
          refine ev_call (jcall_v (A := [(0, x6)]) (S' := [(2, (f2 : Int)), (1, 0), (1, x3)]) (r := r0) rfl (g10990.qlt q0) (g10990.qtg q0) (Nat.le_of_ble_eq_true rfl)) (jOk_le (by decide) (s52 g10990 q0 (by omega) (by omega))) (by decide) (by decide) (fun w11003 h11003 q11003 => ?_)
          obtain ⟨v11004, rfl, lv11004, uv11004, g11003, kk11003⟩ := q11003
          have k11003 := k10990.tr kk11003 (by decide)
          show jEv _ _ _ _ _ _ _ (_, [(2, (r0 : Int)), (2, 1), (2, (f2 : Int)), (1, x3), (9, 0), (0, x5), (0, x6)], [(0, v11004), (2, (f2 : Int)), (1, 0), (1, x3)], _, _, _)
          refine ev_callF (A := [(0, v11004)]) (S' := [(1, 0), (1, x3)]) (r := f2) rfl (g11003.flt q2) (g11003.ffam q2) (Nat.le_of_ble_eq_true rfl) (famL (by decide) (fam_measure g11003 q2 (by omega) (by omega))) (by decide) (by decide) (fun w11005 h11005 q11005 => ?_)
          obtain ⟨v11006, rfl, lv11006, uv11006, g11005, kk11005⟩ := q11005
          have k11005 := k11003.tr kk11005 (by decide)
          show jEv _ _ _ _ _ _ _ (_, [(2, (r0 : Int)), (2, 1), (2, (f2 : Int)), (1, x3), (9, 0), (0, x5), (0, x6)], [(0, v11006), (1, 0), (1, x3)], _, _, _)
          refine ev_i2l ?_
          refine ev_lmul (r := 0) (by unfold w64; omega) ?_
          refine ev_ladd (r := x3) (by unfold w64; omega) ?_
          refine ev_lstore_n (L' := [(2, (r0 : Int)), (2, 1), (2, (f2 : Int)), (1, x3), (9, 0), (0, x5), (0, x6)]) (Nat.le_of_ble_eq_true rfl) rfl ?_
          refine ev_iinc (w := (x6 + 1)) (L' := [(2, (r0 : Int)), (2, 1), (2, (f2 : Int)), (1, x3), (9, 0), (0, x5), (0, (x6 + 1))]) rfl (by unfold w32; omega) rfl ?_
          refine ev_goto f51_15 ?_
          exact ih _ _ _ _ g11005 k11005 (by omega) (by omega) (by omega) (by omega) (by omega) (by omega) (by omega)
set_option maxHeartbeats 4000000 in
theorem s51 {G : GH} {h : JH} (g : Gd G h) {r0 : Nat} {m0 : Int} (q0 : IsQ G r0 m0) {f2 : Nat} (q2 : IsF G f2) : jOk 4 0 0 51 [(2, (r0 : Int)), (2, 1), (2, (f2 : Int))] h (PI G [(1000000, 0)] h 1 (-9223372036854775808) 9223372036854775807) := by
  refine ⟨by decide, by rw [ml51]; exact Nat.le_of_ble_eq_true rfl, ?_⟩
  rw [ml51, pp51]
  show jEv _ none _ c51_0 0 0 _ (c51_0, [(2, (r0 : Int)), (2, 1), (2, (f2 : Int)), (9, 0), (9, 0), (9, 0), (9, 0)], [], h, 0, 0)
  have k0 := Kp.rf [(1000000, 0)] h
  have wr0 := g.qb q0
  have zr0 := q0.1
  refine ev_lconst ?_
  refine ev_lstore_n (L' := [(2, (r0 : Int)), (2, 1), (2, (f2 : Int)), (1, 0), (9, 0), (9, 0), (9, 0)]) (Nat.le_of_ble_eq_true rfl) rfl ?_
  refine ev_aload_n rfl ?_
  refine ev_in (d := 2) (a := 0) (b := 0) (cd' := c157_0) (m := 1) (L0 := [(2, 1)]) (jcall_v (A := []) (S' := []) (r := 1) rfl (g.lt ad1) (g.tg ad1) (Nat.le_of_ble_eq_true rfl)) (by decide) ml157 pp157 (Nat.le_of_ble_eq_true rfl) rfl (by decide) (by decide) ?_
  refine ev_iconst ?_
  refine ev_iconst ?_
  refine ev_aload_n rfl ?_
  obtain ⟨v11007, ev11007, lv11007, uv11007⟩ := g.rd ad1 (show 0 < 8 by decide) rf1_0
  refine g_getv (r := 1) (v := v11007) g ad1 (by decide) ft10_0 ev11007 ?_
  refine ev_imul (r := (2 * v11007)) (by unfold w32; omega) ?_
  refine g_ishlB (a' := 1) (a := 1) (b := 8) (hi := 256) (by omega) (by omega) (by omega) (by omega) (by decide) (by decide) (fun v11008 ev11008 lv11008 uv11008 => ?_)
  refine ev_ret rfl (by decide) (by decide) ?_
  show jEv _ _ _ _ _ _ _ (_, [(2, (r0 : Int)), (2, 1), (2, (f2 : Int)), (1, 0), (9, 0), (9, 0), (9, 0)], [(0, v11008)], _, _, _)
  refine ev_iconst ?_
  refine ev_isub (r := (v11008 - 1)) (by unfold w32; omega) ?_
  refine ev_iconst ?_
  refine g_idivP (c := 3) rfl (by decide) (by omega) (by omega) (fun v11009 ev11009 lv11009 uv11009 => ?_)
  refine ev_istore (L' := [(2, (r0 : Int)), (2, 1), (2, (f2 : Int)), (1, 0), (9, 0), (0, v11009), (9, 0)]) (Nat.le_of_ble_eq_true rfl) rfl ?_
  refine ev_iconst ?_
  refine ev_istore (L' := [(2, (r0 : Int)), (2, 1), (2, (f2 : Int)), (1, 0), (9, 0), (0, v11009), (0, 0)]) (Nat.le_of_ble_eq_true rfl) rfl ?_
  exact (s51_l q0 q2 514) _ _ _ _ g k0 (by omega) (by omega) (by omega) (by omega) (by omega) (by omega) (by omega)
/-! 53 valueOfPlan -/
set_option maxHeartbeats 4000000 in
theorem s53_l {G : GH} {h : JH} {r0 : Nat} {m0 : Int} (q0 : IsQ G r0 m0) {a1 : Int} (la1 : (-2147483648) ≤ a1) (ua1 : a1 ≤ 2147483647) : ∀ N : Nat, (∀ (h1 : JH) (x2 x3 : Int), Gd G h1 → Kp [] h h1 → (-2147483648) ≤ a1 → a1 ≤ 2147483647 → 0 ≤ x2 → x2 ≤ 99 → x2 ≤ m0 - 1 → 0 ≤ x3 → x3 ≤ 100 → ((-x3) + 100) < N → jEv (jOk 1) none (fun _ => 0) c53_0 0 0 (PI G [] h 0 (-2147483648) 2147483647) (c53_4, [(2, (r0 : Int)), (0, a1), (0, x2), (0, x3)], [], h1, 0, 0)) := by
  intro N
  induction N with
  | zero => exact fun h1 x2 x3 g1 k1 b0 b1 b2 b3 b4 b5 b6 hm => absurd hm (by omega)
  | succ N ih =>
    show _
    intro h1 x2 x3 g1 k1 b0 b1 b2 b3 b4 b5 b6 hm
    have wr0 := g1.qb q0
    have zr0 := q0.1
    refine ev_iload_n rfl ?_
    refine ev_aload_n rfl ?_
    obtain ⟨v11712, ev11712, lv11712, uv11712⟩ := g1.q0 q0
    refine g_qgetv (v := v11712) g1 q0 ft4_0 ev11712 ?_
    refine ev_icmpge f53_64 (fun c11713 => ?_) (fun c11713 => ?_)
    · refine ev_aload_n rfl ?_
      refine g_qgetp g1 q0 (c := 3) (by decide) (by decide) ft4_3 ?_
      refine ev_iload_n rfl ?_
      refine g_qiald g1 q0 (c := 3) (by decide) (by decide) (by decide) (by omega) (by show x2 < m0; omega) rfl (fun v11714 ev11714 lv11714 uv11714 => ?_)
      refine ev_aload_n rfl ?_
      refine g_qgetp g1 q0 (c := 11) (by decide) (by decide) ft4_11 ?_
      refine ev_iload_n rfl ?_
      refine g_qiald g1 q0 (c := 11) (by decide) (by decide) (by decide) (by omega) (by show x2 < m0; omega) rfl (fun v11715 ev11715 lv11715 uv11715 => ?_)
      refine g_isubG (fun v11716 ev11716 lv11716 uv11716 => ?_)
      exact ev_ret rfl (by decide) (by decide) ⟨_, rfl, by omega, by omega, g1, k1⟩
    · refine ev_aload_n rfl ?_
      refine g_qgetp g1 q0 (c := 2) (by decide) (by decide) ft4_2 ?_
      refine ev_iload_n rfl ?_
      refine g_qiald g1 q0 (c := 2) (by decide) (by decide) (by decide) (by omega) (by show x2 < m0; omega) rfl (fun v11717 ev11717 lv11717 uv11717 => ?_)
      refine ev_ifeq f53_64 (fun c11718 => ?_) (fun c11718 => ?_)
      · refine ev_aload_n rfl ?_
        refine g_qgetp g1 q0 (c := 3) (by decide) (by decide) ft4_3 ?_
        refine ev_iload_n rfl ?_
        refine g_qiald g1 q0 (c := 3) (by decide) (by decide) (by decide) (by omega) (by show x2 < m0; omega) rfl (fun v11719 ev11719 lv11719 uv11719 => ?_)
        refine ev_aload_n rfl ?_
        refine g_qgetp g1 q0 (c := 11) (by decide) (by decide) ft4_11 ?_
        refine ev_iload_n rfl ?_
        refine g_qiald g1 q0 (c := 11) (by decide) (by decide) (by decide) (by omega) (by show x2 < m0; omega) rfl (fun v11720 ev11720 lv11720 uv11720 => ?_)
        refine g_isubG (fun v11721 ev11721 lv11721 uv11721 => ?_)
        exact ev_ret rfl (by decide) (by decide) ⟨_, rfl, by omega, by omega, g1, k1⟩
      · refine ev_aload_n rfl ?_
        refine ev_iload_n rfl ?_
        refine ev_aload_n rfl ?_
        refine g_qgetp g1 q0 (c := 2) (by decide) (by decide) ft4_2 ?_
        refine ev_iload_n rfl ?_
        refine g_qialdv (v := v11717) g1 q0 (c := 2) (by decide) (by decide) (by decide) (by omega) (by show x2 < m0; omega) (ev11717) ?_
        refine ev_iconst ?_
        refine ev_icmpne f53_42 (fun c11722 => ?_) (fun c11722 => ?_)
        · refine ev_iload_n rfl ?_
          refine ev_iconst ?_
          refine ev_aload_n rfl ?_
          refine g_qgetp g1 q0 (c := 3) (by decide) (by decide) ft4_3 ?_
          refine ev_iload_n rfl ?_
          refine g_qiald g1 q0 (c := 3) (by decide) (by decide) (by decide) (by omega) (by show x2 < m0; omega) rfl (fun v11723 ev11723 lv11723 uv11723 => ?_)
          refine g_imulG (fun v11724 ev11724 lv11724 uv11724 => ?_)
          refine g_ishrG (fun v11725 ev11725 lv11725 uv11725 => ?_)
          refine ev_iconst ?_
          refine g_iandB (b := 3) (by omega) (by omega) (by decide) (fun v11726 ev11726 lv11726 uv11726 => ?_)
          refine ev_in (d := 0) (a := 0) (b := 0) (cd' := c30_0) (m := 3) (L0 := [(2, (r0 : Int)), (0, x2), (0, v11726)]) (jcall_v (A := [(0, v11726), (0, x2)]) (S' := []) (r := r0) rfl (g1.qlt q0) (g1.qtg q0) (Nat.le_of_ble_eq_true rfl)) (by decide) ml30 pp30 (Nat.le_of_ble_eq_true rfl) rfl (by decide) (by decide) ?_
          refine ev_aload_n rfl ?_
          refine g_qgetp g1 q0 (c := 5) (by decide) (by decide) ft4_5 ?_
          refine ev_iconst ?_
          refine ev_iload_n rfl ?_
          refine ev_imul (r := (4 * x2)) (by unfold w32; omega) ?_
          refine ev_iload_n rfl ?_
          refine ev_iadd (r := (v11726 + 4 * x2)) (by unfold w32; omega) ?_
          refine g_qiald g1 q0 (c := 5) (by decide) (by decide) (by decide) (by omega) (by show (v11726 + 4 * x2) < 4 * m0; omega) rfl (fun v11727 ev11727 lv11727 uv11727 => ?_)
          refine ev_ret rfl (by decide) (by decide) ?_
          show jEv _ _ _ _ _ _ _ (_, [(2, (r0 : Int)), (0, a1), (0, x2), (0, x3)], [(0, v11727)], _, _, _)
          refine ev_istore_n (L' := [(2, (r0 : Int)), (0, a1), (0, v11727), (0, x3)]) (Nat.le_of_ble_eq_true rfl) rfl ?_
          refine ev_iinc (w := (x3 + 1)) (L' := [(2, (r0 : Int)), (0, a1), (0, v11727), (0, (x3 + 1))]) rfl (by unfold w32; omega) rfl ?_
          refine ev_goto f53_4 ?_
          exact ih _ _ _ g1 k1 (by omega) (by omega) (by omega) (by omega) (by omega) (by omega) (by omega) (by omega)
        · refine ev_aload_n rfl ?_
          refine g_qgetp g1 q0 (c := 9) (by decide) (by decide) ft4_9 ?_
          refine ev_iload_n rfl ?_
          refine g_qiald g1 q0 (c := 9) (by decide) (by decide) (by decide) (by omega) (by show x2 < m0; omega) rfl (fun v11728 ev11728 lv11728 uv11728 => ?_)
          refine ev_goto f53_54 ?_
          refine ev_in (d := 0) (a := 0) (b := 0) (cd' := c30_0) (m := 3) (L0 := [(2, (r0 : Int)), (0, x2), (0, v11728)]) (jcall_v (A := [(0, v11728), (0, x2)]) (S' := []) (r := r0) rfl (g1.qlt q0) (g1.qtg q0) (Nat.le_of_ble_eq_true rfl)) (by decide) ml30 pp30 (Nat.le_of_ble_eq_true rfl) rfl (by decide) (by decide) ?_
          refine ev_aload_n rfl ?_
          refine g_qgetp g1 q0 (c := 5) (by decide) (by decide) ft4_5 ?_
          refine ev_iconst ?_
          refine ev_iload_n rfl ?_
          refine ev_imul (r := (4 * x2)) (by unfold w32; omega) ?_
          refine ev_iload_n rfl ?_
          refine ev_iadd (r := (v11728 + 4 * x2)) (by unfold w32; omega) ?_
          refine g_qiald g1 q0 (c := 5) (by decide) (by decide) (by decide) (by omega) (by show (v11728 + 4 * x2) < 4 * m0; omega) rfl (fun v11729 ev11729 lv11729 uv11729 => ?_)
          refine ev_ret rfl (by decide) (by decide) ?_
          show jEv _ _ _ _ _ _ _ (_, [(2, (r0 : Int)), (0, a1), (0, x2), (0, x3)], [(0, v11729)], _, _, _)
          refine ev_istore_n (L' := [(2, (r0 : Int)), (0, a1), (0, v11729), (0, x3)]) (Nat.le_of_ble_eq_true rfl) rfl ?_
          refine ev_iinc (w := (x3 + 1)) (L' := [(2, (r0 : Int)), (0, a1), (0, v11729), (0, (x3 + 1))]) rfl (by unfold w32; omega) rfl ?_
          refine ev_goto f53_4 ?_
          exact ih _ _ _ g1 k1 (by omega) (by omega) (by omega) (by omega) (by omega) (by omega) (by omega) (by omega)
set_option maxHeartbeats 4000000 in
theorem s53 {G : GH} {h : JH} (g : Gd G h) {r0 : Nat} {m0 : Int} (q0 : IsQ G r0 m0) {a1 : Int} (la1 : (-2147483648) ≤ a1) (ua1 : a1 ≤ 2147483647) : jOk 2 0 0 53 [(2, (r0 : Int)), (0, a1)] h (PI G [] h 0 (-2147483648) 2147483647) := by
  refine ⟨by decide, by rw [ml53]; exact Nat.le_of_ble_eq_true rfl, ?_⟩
  rw [ml53, pp53]
  show jEv _ none _ c53_0 0 0 _ (c53_0, [(2, (r0 : Int)), (0, a1), (9, 0), (9, 0)], [], h, 0, 0)
  have k0 := Kp.rf [] h
  have wr0 := g.qb q0
  have zr0 := q0.1
  refine ev_iconst ?_
  refine ev_istore_n (L' := [(2, (r0 : Int)), (0, a1), (0, 0), (9, 0)]) (Nat.le_of_ble_eq_true rfl) rfl ?_
  refine ev_iconst ?_
  refine ev_istore_n (L' := [(2, (r0 : Int)), (0, a1), (0, 0), (0, 0)]) (Nat.le_of_ble_eq_true rfl) rfl ?_
  exact (s53_l q0 la1 ua1 202) _ _ _ g k0 (by omega) (by omega) (by omega) (by omega) (by omega) (by omega) (by omega) (by omega)
/-! 54 reachByPlan -/
set_option maxHeartbeats 4000000 in
theorem s54_l {G : GH} {h : JH} {r0 : Nat} {m0 : Int} (q0 : IsQ G r0 m0) : ∀ N : Nat, (∀ (h1 : JH) (x1 : Int) (j2 j3 : AV), Gd G h1 → Kp [(1000000, 0)] h h1 → 0 ≤ x1 → x1 ≤ 100 → ((-10) * x1 + 1005) < N → jEv (jOk 1) none (fun _ => 0) c54_0 0 0 (PV G [(1000000, 0)] h) (c54_9, [(2, (r0 : Int)), (0, x1), j2, j3], [], h1, 0, 0)) ∧ (∀ (h1 : JH) (x1 x2 : Int) (j3 : AV), Gd G h1 → Kp [(1000000, 0)] h h1 → 0 ≤ x1 → x1 ≤ 99 → x1 ≤ m0 - 1 → 0 ≤ x2 → x2 ≤ 4 → ((-10) * x1 + (-x2) + 1004) < N → jEv (jOk 1) none (fun _ => 0) c54_0 0 0 (PV G [(1000000, 0)] h) (c54_19, [(2, (r0 : Int)), (0, x1), (0, x2), j3], [], h1, 0, 0)) := by
  intro N
  induction N with
  | zero => exact ⟨fun h1 x1 j2 j3 g1 k1 b0 b1 hm => absurd hm (by omega), fun h1 x1 x2 j3 g1 k1 b0 b1 b2 b3 b4 hm => absurd hm (by omega)⟩
  | succ N ih =>
    refine ⟨?_, ?_⟩
    · intro h1 x1 j2 j3 g1 k1 b0 b1 hm
      have wr0 := g1.qb q0
      have zr0 := q0.1
      refine ev_iload_n rfl ?_
      refine ev_aload_n rfl ?_
      obtain ⟨v12722, ev12722, lv12722, uv12722⟩ := g1.q0 q0
      refine g_qgetv (v := v12722) g1 q0 ft4_0 ev12722 ?_
      refine ev_icmpge f54_96 (fun c12723 => ?_) (fun c12723 => ?_)
      · exact ev_ret rfl (by decide) (by decide) ⟨rfl, g1, k1⟩
      · refine ev_iconst ?_
        refine ev_istore_n (L' := [(2, (r0 : Int)), (0, x1), (0, 0), j3]) (Nat.le_of_ble_eq_true rfl) rfl ?_
        exact ih.2 _ _ _ _ g1 k1 (by omega) (by omega) (by omega) (by omega) (by omega) (by omega)
    · intro h1 x1 x2 j3 g1 k1 b0 b1 b2 b3 b4 hm
      have wr0 := g1.qb q0
      have zr0 := q0.1
      refine ev_iload_n rfl ?_
      refine ev_aload_n rfl ?_
      refine g_qgetp g1 q0 (c := 4) (by decide) (by decide) ft4_4 ?_
      refine ev_iload_n rfl ?_
      refine g_qiald g1 q0 (c := 4) (by decide) (by decide) (by decide) (by omega) (by show x1 < m0; omega) rfl (fun v12724 ev12724 lv12724 uv12724 => ?_)
      refine ev_icmpge f54_90 (fun c12725 => ?_) (fun c12725 => ?_)
      · refine ev_iinc (w := (x1 + 1)) (L' := [(2, (r0 : Int)), (0, (x1 + 1)), (0, x2), j3]) rfl (by unfold w32; omega) rfl ?_
        refine ev_goto f54_9 ?_
        exact ih.1 _ _ _ _ g1 k1 (by omega) (by omega) (by omega)
      · refine ev_aload_n rfl ?_
        refine g_qgetp g1 q0 (c := 2) (by decide) (by decide) ft4_2 ?_
        refine ev_iload_n rfl ?_
        refine g_qiald g1 q0 (c := 2) (by decide) (by decide) (by decide) (by omega) (by show x1 < m0; omega) rfl (fun v12726 ev12726 lv12726 uv12726 => ?_)
        refine ev_iconst ?_
        refine ev_icmpeq f54_49 (fun c12727 => ?_) (fun c12727 => ?_)
        · refine ev_iconst ?_
          refine ev_goto f54_54 ?_
          refine ev_istore_n (L' := [(2, (r0 : Int)), (0, x1), (0, x2), (0, 1)]) (Nat.le_of_ble_eq_true rfl) rfl ?_
          refine ev_aload_n rfl ?_
          refine g_qgetp g1 q0 (c := 13) (by decide) (by decide) ft4_13 ?_
          refine ev_aload_n rfl ?_
          refine ev_iload_n rfl ?_
          refine ev_iload_n rfl ?_
          refine ev_in (d := 0) (a := 0) (b := 0) (cd' := c30_0) (m := 3) (L0 := [(2, (r0 : Int)), (0, x1), (0, x2)]) (jcall_v (A := [(0, x2), (0, x1)]) (S' := [(2, ((r0 + 12 : Nat) : Int))]) (r := r0) rfl (g1.qlt q0) (g1.qtg q0) (Nat.le_of_ble_eq_true rfl)) (by decide) ml30 pp30 (Nat.le_of_ble_eq_true rfl) rfl (by decide) (by decide) ?_
          refine ev_aload_n rfl ?_
          refine g_qgetp g1 q0 (c := 5) (by decide) (by decide) ft4_5 ?_
          refine ev_iconst ?_
          refine ev_iload_n rfl ?_
          refine ev_imul (r := (4 * x1)) (by unfold w32; omega) ?_
          refine ev_iload_n rfl ?_
          refine ev_iadd (r := (4 * x1 + x2)) (by unfold w32; omega) ?_
          refine g_qiald g1 q0 (c := 5) (by decide) (by decide) (by decide) (by omega) (by show (4 * x1 + x2) < 4 * m0; omega) rfl (fun v12728 ev12728 lv12728 uv12728 => ?_)
          refine ev_ret rfl (by decide) (by decide) ?_
          show jEv _ _ _ _ _ _ _ (_, [(2, (r0 : Int)), (0, x1), (0, x2), (0, 1)], [(0, v12728), (2, ((r0 + 12 : Nat) : Int))], _, _, _)
          refine ev_aload_n rfl ?_
          refine g_qgetp g1 q0 (c := 13) (by decide) (by decide) ft4_13 ?_
          refine ev_iload_n rfl ?_
          refine g_qzald g1 q0 (c := 13) (by decide) (by decide) (by decide) (by omega) (by show x1 < m0; omega) rfl (fun v12729 ev12729 lv12729 uv12729 => ?_)
          refine ev_ifeq f54_82 (fun c12730 => ?_) (fun c12730 => ?_)
          · refine ev_iconst ?_
            refine g_qzast g1 q0 (c := 13) (by decide) (by decide) (by decide) (by omega) (by show v12728 < m0; omega) rfl (by omega) (by omega) (fun h12731 e12731 g12731 => ?_)
            have k12731 := k1.wr e12731 (inW_dyn rfl (by have := q0.1; omega))
            refine ev_iinc (w := (x2 + 1)) (L' := [(2, (r0 : Int)), (0, x1), (0, (x2 + 1)), (0, 1)]) rfl (by unfold w32; omega) rfl ?_
            refine ev_goto f54_19 ?_
            exact ih.2 _ _ _ _ g12731 k12731 (by omega) (by omega) (by omega) (by omega) (by omega) (by omega)
          · refine ev_iload_n rfl ?_
            refine ev_ifeq f54_82 (fun c12732 => absurd c12732 (by omega)) (fun c12732 => ?_)
            refine ev_iconst ?_
            refine ev_goto f54_83 ?_
            refine g_qzast g1 q0 (c := 13) (by decide) (by decide) (by decide) (by omega) (by show v12728 < m0; omega) rfl (by omega) (by omega) (fun h12733 e12733 g12733 => ?_)
            have k12733 := k1.wr e12733 (inW_dyn rfl (by have := q0.1; omega))
            refine ev_iinc (w := (x2 + 1)) (L' := [(2, (r0 : Int)), (0, x1), (0, (x2 + 1)), (0, 1)]) rfl (by unfold w32; omega) rfl ?_
            refine ev_goto f54_19 ?_
            exact ih.2 _ _ _ _ g12733 k12733 (by omega) (by omega) (by omega) (by omega) (by omega) (by omega)
        · refine ev_aload_n rfl ?_
          refine g_qgetp g1 q0 (c := 9) (by decide) (by decide) ft4_9 ?_
          refine ev_iload_n rfl ?_
          refine g_qiald g1 q0 (c := 9) (by decide) (by decide) (by decide) (by omega) (by show x1 < m0; omega) rfl (fun v12734 ev12734 lv12734 uv12734 => ?_)
          refine ev_iload_n rfl ?_
          refine ev_icmpne f54_53 (fun c12735 => ?_) (fun c12735 => ?_)
          · refine ev_iconst ?_
            refine ev_istore_n (L' := [(2, (r0 : Int)), (0, x1), (0, x2), (0, 0)]) (Nat.le_of_ble_eq_true rfl) rfl ?_
            refine ev_aload_n rfl ?_
            refine g_qgetp g1 q0 (c := 13) (by decide) (by decide) ft4_13 ?_
            refine ev_aload_n rfl ?_
            refine ev_iload_n rfl ?_
            refine ev_iload_n rfl ?_
            refine ev_in (d := 0) (a := 0) (b := 0) (cd' := c30_0) (m := 3) (L0 := [(2, (r0 : Int)), (0, x1), (0, x2)]) (jcall_v (A := [(0, x2), (0, x1)]) (S' := [(2, ((r0 + 12 : Nat) : Int))]) (r := r0) rfl (g1.qlt q0) (g1.qtg q0) (Nat.le_of_ble_eq_true rfl)) (by decide) ml30 pp30 (Nat.le_of_ble_eq_true rfl) rfl (by decide) (by decide) ?_
            refine ev_aload_n rfl ?_
            refine g_qgetp g1 q0 (c := 5) (by decide) (by decide) ft4_5 ?_
            refine ev_iconst ?_
            refine ev_iload_n rfl ?_
            refine ev_imul (r := (4 * x1)) (by unfold w32; omega) ?_
            refine ev_iload_n rfl ?_
            refine ev_iadd (r := (4 * x1 + x2)) (by unfold w32; omega) ?_
            refine g_qiald g1 q0 (c := 5) (by decide) (by decide) (by decide) (by omega) (by show (4 * x1 + x2) < 4 * m0; omega) rfl (fun v12736 ev12736 lv12736 uv12736 => ?_)
            refine ev_ret rfl (by decide) (by decide) ?_
            show jEv _ _ _ _ _ _ _ (_, [(2, (r0 : Int)), (0, x1), (0, x2), (0, 0)], [(0, v12736), (2, ((r0 + 12 : Nat) : Int))], _, _, _)
            refine ev_aload_n rfl ?_
            refine g_qgetp g1 q0 (c := 13) (by decide) (by decide) ft4_13 ?_
            refine ev_iload_n rfl ?_
            refine g_qzald g1 q0 (c := 13) (by decide) (by decide) (by decide) (by omega) (by show x1 < m0; omega) rfl (fun v12737 ev12737 lv12737 uv12737 => ?_)
            refine ev_ifeq f54_82 (fun c12738 => ?_) (fun c12738 => ?_)
            · refine ev_iconst ?_
              refine g_qzast g1 q0 (c := 13) (by decide) (by decide) (by decide) (by omega) (by show v12736 < m0; omega) rfl (by omega) (by omega) (fun h12739 e12739 g12739 => ?_)
              have k12739 := k1.wr e12739 (inW_dyn rfl (by have := q0.1; omega))
              refine ev_iinc (w := (x2 + 1)) (L' := [(2, (r0 : Int)), (0, x1), (0, (x2 + 1)), (0, 0)]) rfl (by unfold w32; omega) rfl ?_
              refine ev_goto f54_19 ?_
              exact ih.2 _ _ _ _ g12739 k12739 (by omega) (by omega) (by omega) (by omega) (by omega) (by omega)
            · refine ev_iload_n rfl ?_
              refine ev_ifeq f54_82 (fun c12740 => ?_) (fun c12740 => absurd c12740 (by omega))
              refine ev_iconst ?_
              refine g_qzast g1 q0 (c := 13) (by decide) (by decide) (by decide) (by omega) (by show v12736 < m0; omega) rfl (by omega) (by omega) (fun h12741 e12741 g12741 => ?_)
              have k12741 := k1.wr e12741 (inW_dyn rfl (by have := q0.1; omega))
              refine ev_iinc (w := (x2 + 1)) (L' := [(2, (r0 : Int)), (0, x1), (0, (x2 + 1)), (0, 0)]) rfl (by unfold w32; omega) rfl ?_
              refine ev_goto f54_19 ?_
              exact ih.2 _ _ _ _ g12741 k12741 (by omega) (by omega) (by omega) (by omega) (by omega) (by omega)
          · refine ev_iconst ?_
            refine ev_goto f54_54 ?_
            refine ev_istore_n (L' := [(2, (r0 : Int)), (0, x1), (0, x2), (0, 1)]) (Nat.le_of_ble_eq_true rfl) rfl ?_
            refine ev_aload_n rfl ?_
            refine g_qgetp g1 q0 (c := 13) (by decide) (by decide) ft4_13 ?_
            refine ev_aload_n rfl ?_
            refine ev_iload_n rfl ?_
            refine ev_iload_n rfl ?_
            refine ev_in (d := 0) (a := 0) (b := 0) (cd' := c30_0) (m := 3) (L0 := [(2, (r0 : Int)), (0, x1), (0, x2)]) (jcall_v (A := [(0, x2), (0, x1)]) (S' := [(2, ((r0 + 12 : Nat) : Int))]) (r := r0) rfl (g1.qlt q0) (g1.qtg q0) (Nat.le_of_ble_eq_true rfl)) (by decide) ml30 pp30 (Nat.le_of_ble_eq_true rfl) rfl (by decide) (by decide) ?_
            refine ev_aload_n rfl ?_
            refine g_qgetp g1 q0 (c := 5) (by decide) (by decide) ft4_5 ?_
            refine ev_iconst ?_
            refine ev_iload_n rfl ?_
            refine ev_imul (r := (4 * x1)) (by unfold w32; omega) ?_
            refine ev_iload_n rfl ?_
            refine ev_iadd (r := (4 * x1 + x2)) (by unfold w32; omega) ?_
            refine g_qiald g1 q0 (c := 5) (by decide) (by decide) (by decide) (by omega) (by show (4 * x1 + x2) < 4 * m0; omega) rfl (fun v12742 ev12742 lv12742 uv12742 => ?_)
            refine ev_ret rfl (by decide) (by decide) ?_
            show jEv _ _ _ _ _ _ _ (_, [(2, (r0 : Int)), (0, x1), (0, x2), (0, 1)], [(0, v12742), (2, ((r0 + 12 : Nat) : Int))], _, _, _)
            refine ev_aload_n rfl ?_
            refine g_qgetp g1 q0 (c := 13) (by decide) (by decide) ft4_13 ?_
            refine ev_iload_n rfl ?_
            refine g_qzald g1 q0 (c := 13) (by decide) (by decide) (by decide) (by omega) (by show x1 < m0; omega) rfl (fun v12743 ev12743 lv12743 uv12743 => ?_)
            refine ev_ifeq f54_82 (fun c12744 => ?_) (fun c12744 => ?_)
            · refine ev_iconst ?_
              refine g_qzast g1 q0 (c := 13) (by decide) (by decide) (by decide) (by omega) (by show v12742 < m0; omega) rfl (by omega) (by omega) (fun h12745 e12745 g12745 => ?_)
              have k12745 := k1.wr e12745 (inW_dyn rfl (by have := q0.1; omega))
              refine ev_iinc (w := (x2 + 1)) (L' := [(2, (r0 : Int)), (0, x1), (0, (x2 + 1)), (0, 1)]) rfl (by unfold w32; omega) rfl ?_
              refine ev_goto f54_19 ?_
              exact ih.2 _ _ _ _ g12745 k12745 (by omega) (by omega) (by omega) (by omega) (by omega) (by omega)
            · refine ev_iload_n rfl ?_
              refine ev_ifeq f54_82 (fun c12746 => absurd c12746 (by omega)) (fun c12746 => ?_)
              refine ev_iconst ?_
              refine ev_goto f54_83 ?_
              refine g_qzast g1 q0 (c := 13) (by decide) (by decide) (by decide) (by omega) (by show v12742 < m0; omega) rfl (by omega) (by omega) (fun h12747 e12747 g12747 => ?_)
              have k12747 := k1.wr e12747 (inW_dyn rfl (by have := q0.1; omega))
              refine ev_iinc (w := (x2 + 1)) (L' := [(2, (r0 : Int)), (0, x1), (0, (x2 + 1)), (0, 1)]) rfl (by unfold w32; omega) rfl ?_
              refine ev_goto f54_19 ?_
              exact ih.2 _ _ _ _ g12747 k12747 (by omega) (by omega) (by omega) (by omega) (by omega) (by omega)
set_option maxHeartbeats 4000000 in
theorem s54 {G : GH} {h : JH} (g : Gd G h) {r0 : Nat} {m0 : Int} (q0 : IsQ G r0 m0) : jOk 2 0 0 54 [(2, (r0 : Int))] h (PV G [(1000000, 0)] h) := by
  refine ⟨by decide, by rw [ml54]; exact Nat.le_of_ble_eq_true rfl, ?_⟩
  rw [ml54, pp54]
  show jEv _ none _ c54_0 0 0 _ (c54_0, [(2, (r0 : Int)), (9, 0), (9, 0), (9, 0)], [], h, 0, 0)
  have k0 := Kp.rf [(1000000, 0)] h
  have wr0 := g.qb q0
  have zr0 := q0.1
  refine ev_aload_n rfl ?_
  refine g_qgetp g q0 (c := 13) (by decide) (by decide) ft4_13 ?_
  refine ev_iconst ?_
  refine ev_iconst ?_
  refine g_qzast g q0 (c := 13) (by decide) (by decide) (by decide) (by omega) (by show 0 < m0; omega) rfl (by omega) (by omega) (fun h12748 e12748 g12748 => ?_)
  have k12748 := k0.wr e12748 (inW_dyn rfl (by have := q0.1; omega))
  refine ev_iconst ?_
  refine ev_istore_n (L' := [(2, (r0 : Int)), (0, 0), (9, 0), (9, 0)]) (Nat.le_of_ble_eq_true rfl) rfl ?_
  exact (s54_l q0 2020).1 _ _ _ _ g12748 k12748 (by omega) (by omega) (by omega)
/-! 55 toldOfPlan -/
set_option maxHeartbeats 4000000 in
theorem s55_l {G : GH} {h : JH} {r0 : Nat} {m0 : Int} (q0 : IsQ G r0 m0) {a1 : Int} (la1 : (-2147483648) ≤ a1) (ua1 : a1 ≤ 2147483647) : ∀ N : Nat, (∀ (h1 : JH) (x2 x3 : Int), Gd G h1 → Kp [(1000000, 0)] h h1 → (-2147483648) ≤ a1 → a1 ≤ 2147483647 → (-2147483648) ≤ x2 → x2 ≤ 2147483647 → 0 ≤ x3 → x3 ≤ 100 → ((-x3) + 100) < N → jEv (jOk 2) none (fun _ => 0) c55_0 0 0 (PI G [(1000000, 0)] h 0 (-2147483648) 2147483647) (c55_8, [(2, (r0 : Int)), (0, a1), (0, x2), (0, x3)], [], h1, 0, 0)) := by
  intro N
  induction N with
  | zero => exact fun h1 x2 x3 g1 k1 b0 b1 b2 b3 b4 b5 hm => absurd hm (by omega)
  | succ N ih =>
    show _
    intro h1 x2 x3 g1 k1 b0 b1 b2 b3 b4 b5 hm
    have wr0 := g1.qb q0
    have zr0 := q0.1
    refine ev_iload_n rfl ?_
    refine ev_aload_n rfl ?_
    obtain ⟨v13429, ev13429, lv13429, uv13429⟩ := g1.q0 q0
    refine g_qgetv (v := v13429) g1 q0 ft4_0 ev13429 ?_
    refine ev_icmpge f55_61 (fun c13430 => ?_) (fun c13430 => ?_)
    · refine ev_iload_n rfl ?_
      refine ev_iconst ?_
      refine ev_icmpne f55_70 (fun c13431 => ?_) (fun c13431 => ?_)
      · refine ev_iconst ?_
        exact ev_ret rfl (by decide) (by decide) ⟨_, rfl, by omega, by omega, g1, k1⟩
      · refine ev_iload_n rfl ?_
        refine ev_goto f55_71 ?_
        exact ev_ret rfl (by decide) (by decide) ⟨_, rfl, by omega, by omega, g1, k1⟩
    · refine ev_aload_n rfl ?_
      refine g_qgetp g1 q0 (c := 13) (by decide) (by decide) ft4_13 ?_
      refine ev_iload_n rfl ?_
      refine g_qzald g1 q0 (c := 13) (by decide) (by decide) (by decide) (by omega) (by show x3 < m0; omega) rfl (fun v13432 ev13432 lv13432 uv13432 => ?_)
      refine ev_ifeq f55_55 (fun c13433 => ?_) (fun c13433 => ?_)
      · refine ev_iinc (w := (x3 + 1)) (L' := [(2, (r0 : Int)), (0, a1), (0, x2), (0, (x3 + 1))]) rfl (by unfold w32; omega) rfl ?_
        refine ev_goto f55_8 ?_
        exact ih _ _ _ g1 k1 (by omega) (by omega) (by omega) (by omega) (by omega) (by omega) (by omega)
      · refine ev_aload_n rfl ?_
        refine g_qgetp g1 q0 (c := 2) (by decide) (by decide) ft4_2 ?_
        refine ev_iload_n rfl ?_
        refine g_qiald g1 q0 (c := 2) (by decide) (by decide) (by decide) (by omega) (by show x3 < m0; omega) rfl (fun v13434 ev13434 lv13434 uv13434 => ?_)
        refine ev_iconst ?_
        refine ev_icmpne f55_55 (fun c13435 => ?_) (fun c13435 => ?_)
        · refine ev_iinc (w := (x3 + 1)) (L' := [(2, (r0 : Int)), (0, a1), (0, x2), (0, (x3 + 1))]) rfl (by unfold w32; omega) rfl ?_
          refine ev_goto f55_8 ?_
          exact ih _ _ _ g1 k1 (by omega) (by omega) (by omega) (by omega) (by omega) (by omega) (by omega)
        · refine ev_iload_n rfl ?_
          refine ev_iload_n rfl ?_
          refine ev_icmpne f55_52 (fun c13436 => ?_) (fun c13436 => ?_)
          · refine g_iincG (f := fun w => [(2, (r0 : Int)), (0, a1), (0, w), (0, x3)]) rfl (fun _ => rfl) (fun v13437 ev13437 lv13437 uv13437 => ?_)
            refine ev_iinc (w := (x3 + 1)) (L' := [(2, (r0 : Int)), (0, a1), (0, v13437), (0, (x3 + 1))]) rfl (by unfold w32; omega) rfl ?_
            refine ev_goto f55_8 ?_
            exact ih _ _ _ g1 k1 (by omega) (by omega) (by omega) (by omega) (by omega) (by omega) (by omega)
          · refine ev_bipush ?_
            refine ev_iload_n rfl ?_
            refine ev_imul (r := (10 * x3)) (by unfold w32; omega) ?_
            refine ev_aload_n rfl ?_
            refine g_qgetp g1 q0 (c := 9) (by decide) (by decide) ft4_9 ?_
            refine ev_iload_n rfl ?_
            refine g_qiald g1 q0 (c := 9) (by decide) (by decide) (by decide) (by omega) (by show x3 < m0; omega) rfl (fun v13438 ev13438 lv13438 uv13438 => ?_)
            refine ev_iadd (r := (v13438 + 10 * x3)) (by unfold w32; omega) ?_
            exact ev_ret rfl (by decide) (by decide) ⟨_, rfl, by omega, by omega, g1, k1⟩
set_option maxHeartbeats 4000000 in
theorem s55 {G : GH} {h : JH} (g : Gd G h) {r0 : Nat} {m0 : Int} (q0 : IsQ G r0 m0) {a1 : Int} (la1 : (-2147483648) ≤ a1) (ua1 : a1 ≤ 2147483647) : jOk 3 0 0 55 [(2, (r0 : Int)), (0, a1)] h (PI G [(1000000, 0)] h 0 (-2147483648) 2147483647) := by
  refine ⟨by decide, by rw [ml55]; exact Nat.le_of_ble_eq_true rfl, ?_⟩
  rw [ml55, pp55]
  show jEv _ none _ c55_0 0 0 _ (c55_0, [(2, (r0 : Int)), (0, a1), (9, 0), (9, 0)], [], h, 0, 0)
  have k0 := Kp.rf [(1000000, 0)] h
  have wr0 := g.qb q0
  have zr0 := q0.1
  refine ev_aload_n rfl ?_
  refine ev_call (jcall_v (A := []) (S' := []) (r := r0) rfl (g.qlt q0) (g.qtg q0) (Nat.le_of_ble_eq_true rfl)) (jOk_le (by decide) (s54 g q0)) (by decide) (by decide) (fun w13439 h13439 q13439 => ?_)
  obtain ⟨rfl, g13439, kk13439⟩ := q13439
  have k13439 := k0.tr kk13439 (by decide)
  show jEv _ _ _ _ _ _ _ (_, [(2, (r0 : Int)), (0, a1), (9, 0), (9, 0)], [], _, _, _)
  refine ev_iconst ?_
  refine ev_istore_n (L' := [(2, (r0 : Int)), (0, a1), (0, 0), (9, 0)]) (Nat.le_of_ble_eq_true rfl) rfl ?_
  refine ev_iconst ?_
  refine ev_istore_n (L' := [(2, (r0 : Int)), (0, a1), (0, 0), (0, 0)]) (Nat.le_of_ble_eq_true rfl) rfl ?_
  exact (s55_l q0 la1 ua1 202) _ _ _ g13439 k13439 (by omega) (by omega) (by omega) (by omega) (by omega) (by omega) (by omega)
/-! 57 isBettered -/
set_option maxHeartbeats 4000000 in
theorem s57_l {G : GH} {h : JH} {r0 : Nat} {m0 : Int} (q0 : IsQ G r0 m0) {a1 : Int} (la1 : 0 ≤ a1) (ua1 : a1 ≤ m0 - 1) {f2 : Nat} (q2 : IsF G f2) {a3 : Int} (la3 : (-9223372036854775808) ≤ a3) (ua3 : a3 ≤ 9223372036854775807) : ∀ N : Nat, (∀ (h1 : JH) (x5 x6 x7 : Int), Gd G h1 → Kp [(1000000, 0)] h h1 → 0 ≤ a1 → a1 ≤ 99 → (-9223372036854775808) ≤ a3 → a3 ≤ 9223372036854775807 → 0 ≤ x5 → x5 ≤ 3 → 0 ≤ x6 → x6 ≤ 1 → 0 ≤ x7 → x7 ≤ 4 → ((-x7) + 4) < N → jEv (jOk 4) none (fun _ => 0) c57_0 0 0 (PI G [(1000000, 0)] h 0 0 1) (c57_14, [(2, (r0 : Int)), (0, a1), (2, (f2 : Int)), (1, a3), (9, 0), (0, x5), (0, x6), (0, x7)], [], h1, 0, 0)) := by
  intro N
  induction N with
  | zero => exact fun h1 x5 x6 x7 g1 k1 b0 b1 b2 b3 b4 b5 b6 b7 b8 b9 hm => absurd hm (by omega)
  | succ N ih =>
    show _
    intro h1 x5 x6 x7 g1 k1 b0 b1 b2 b3 b4 b5 b6 b7 b8 b9 hm
    have wr0 := g1.qb q0
    have zr0 := q0.1
    refine ev_iload rfl ?_
    refine ev_aload_n rfl ?_
    refine g_qgetp g1 q0 (c := 4) (by decide) (by decide) ft4_4 ?_
    refine ev_iload_n rfl ?_
    refine g_qiald g1 q0 (c := 4) (by decide) (by decide) (by decide) (by omega) (by show a1 < m0; omega) rfl (fun v13495 ev13495 lv13495 uv13495 => ?_)
    refine ev_icmpge f57_61 (fun c13496 => ?_) (fun c13496 => ?_)
    · refine ev_aload_n rfl ?_
      refine g_qgetp g1 q0 (c := 9) (by decide) (by decide) ft4_9 ?_
      refine ev_iload_n rfl ?_
      refine ev_iload rfl ?_
      refine g_qiast g1 q0 (c := 9) (by decide) (by decide) (by decide) (by omega) (by show a1 < m0; omega) rfl (by omega) (by omega) (fun h13497 e13497 g13497 => ?_)
      have k13497 := k1.wr e13497 (inW_dyn rfl (by have := q0.1; omega))
      refine ev_iload rfl ?_
      exact ev_ret (jret_b (by omega)) (by decide) (by decide) ⟨_, rfl, by omega, by omega, g13497, k13497⟩
    · refine ev_iload rfl ?_
      refine ev_ifne f57_61 (fun c13498 => ?_) (fun c13498 => ?_)
      · refine ev_aload_n rfl ?_
        refine g_qgetp g1 q0 (c := 9) (by decide) (by decide) ft4_9 ?_
        refine ev_iload_n rfl ?_
        refine ev_iload rfl ?_
        refine g_qiast g1 q0 (c := 9) (by decide) (by decide) (by decide) (by omega) (by show a1 < m0; omega) rfl (by omega) (by omega) (fun h13499 e13499 g13499 => ?_)
        have k13499 := k1.wr e13499 (inW_dyn rfl (by have := q0.1; omega))
        refine ev_iload rfl ?_
        exact ev_ret (jret_b (by omega)) (by decide) (by decide) ⟨_, rfl, by omega, by omega, g13499, k13499⟩
      · refine ev_aload_n rfl ?_
        refine g_qgetp g1 q0 (c := 9) (by decide) (by decide) ft4_9 ?_
        refine ev_iload_n rfl ?_
        refine ev_iload rfl ?_
        refine g_qiast g1 q0 (c := 9) (by decide) (by decide) (by decide) (by omega) (by show a1 < m0; omega) rfl (by omega) (by omega) (fun h13500 e13500 g13500 => ?_)
        have k13500 := k1.wr e13500 (inW_dyn rfl (by have := q0.1; omega))
        refine ev_aload_n rfl ?_
        refine ev_aload_n rfl ?_
        refine ev_call (jcall_v (A := [(2, (f2 : Int))]) (S' := []) (r := r0) rfl (g13500.qlt q0) (g13500.qtg q0) (Nat.le_of_ble_eq_true rfl)) (jOk_le (by decide) (s49 g13500 q0 q2)) (by decide) (by decide) (fun w13501 h13501 q13501 => ?_)
        obtain ⟨v13502, rfl, lv13502, uv13502, g13501, kk13501⟩ := q13501
        have k13501 := k13500.tr kk13501 (by decide)
        show jEv _ _ _ _ _ _ _ (_, [(2, (r0 : Int)), (0, a1), (2, (f2 : Int)), (1, a3), (9, 0), (0, x5), (0, x6), (0, x7)], [(1, v13502)], _, _, _)
        refine ev_lload_n rfl ?_
        refine ev_lcmp ?_
        refine ev_ifle f57_52 (fun c13503 => ?_) (fun c13503 => ?_)
        · have c13503b := jcmpL_le c13503
          refine ev_iconst ?_
          refine ev_istore (L' := [(2, (r0 : Int)), (0, a1), (2, (f2 : Int)), (1, a3), (9, 0), (0, x5), (0, 0), (0, x7)]) (Nat.le_of_ble_eq_true rfl) rfl ?_
          refine ev_iinc (w := (x7 + 1)) (L' := [(2, (r0 : Int)), (0, a1), (2, (f2 : Int)), (1, a3), (9, 0), (0, x5), (0, 0), (0, (x7 + 1))]) rfl (by unfold w32; omega) rfl ?_
          refine ev_goto f57_14 ?_
          exact ih _ _ _ _ g13501 k13501 (by omega) (by omega) (by omega) (by omega) (by omega) (by omega) (by omega) (by omega) (by omega) (by omega) (by omega)
        · have c13503b := jcmpL_leN c13503
          refine ev_iconst ?_
          refine ev_goto f57_53 ?_
          refine ev_istore (L' := [(2, (r0 : Int)), (0, a1), (2, (f2 : Int)), (1, a3), (9, 0), (0, x5), (0, 1), (0, x7)]) (Nat.le_of_ble_eq_true rfl) rfl ?_
          refine ev_iinc (w := (x7 + 1)) (L' := [(2, (r0 : Int)), (0, a1), (2, (f2 : Int)), (1, a3), (9, 0), (0, x5), (0, 1), (0, (x7 + 1))]) rfl (by unfold w32; omega) rfl ?_
          refine ev_goto f57_14 ?_
          exact ih _ _ _ _ g13501 k13501 (by omega) (by omega) (by omega) (by omega) (by omega) (by omega) (by omega) (by omega) (by omega) (by omega) (by omega)
set_option maxHeartbeats 4000000 in
theorem s57 {G : GH} {h : JH} (g : Gd G h) {r0 : Nat} {m0 : Int} (q0 : IsQ G r0 m0) {a1 : Int} (la1 : 0 ≤ a1) (ua1 : a1 ≤ m0 - 1) {f2 : Nat} (q2 : IsF G f2) {a3 : Int} (la3 : (-9223372036854775808) ≤ a3) (ua3 : a3 ≤ 9223372036854775807) : jOk 5 0 0 57 [(2, (r0 : Int)), (0, a1), (2, (f2 : Int)), (1, a3)] h (PI G [(1000000, 0)] h 0 0 1) := by
  refine ⟨by decide, by rw [ml57]; exact Nat.le_of_ble_eq_true rfl, ?_⟩
  rw [ml57, pp57]
  show jEv _ none _ c57_0 0 0 _ (c57_0, [(2, (r0 : Int)), (0, a1), (2, (f2 : Int)), (1, a3), (9, 0), (9, 0), (9, 0), (9, 0)], [], h, 0, 0)
  have k0 := Kp.rf [(1000000, 0)] h
  have wr0 := g.qb q0
  have zr0 := q0.1
  refine ev_aload_n rfl ?_
  refine g_qgetp g q0 (c := 9) (by decide) (by decide) ft4_9 ?_
  refine ev_iload_n rfl ?_
  refine g_qiald g q0 (c := 9) (by decide) (by decide) (by decide) (by omega) (by show a1 < m0; omega) rfl (fun v13504 ev13504 lv13504 uv13504 => ?_)
  refine ev_istore (L' := [(2, (r0 : Int)), (0, a1), (2, (f2 : Int)), (1, a3), (9, 0), (0, v13504), (9, 0), (9, 0)]) (Nat.le_of_ble_eq_true rfl) rfl ?_
  refine ev_iconst ?_
  refine ev_istore (L' := [(2, (r0 : Int)), (0, a1), (2, (f2 : Int)), (1, a3), (9, 0), (0, v13504), (0, 0), (9, 0)]) (Nat.le_of_ble_eq_true rfl) rfl ?_
  refine ev_iconst ?_
  refine ev_istore (L' := [(2, (r0 : Int)), (0, a1), (2, (f2 : Int)), (1, a3), (9, 0), (0, v13504), (0, 0), (0, 0)]) (Nat.le_of_ble_eq_true rfl) rfl ?_
  exact (s57_l q0 la1 ua1 q2 la3 ua3 10) _ _ _ _ g k0 (by omega) (by omega) (by omega) (by omega) (by omega) (by omega) (by omega) (by omega) (by omega) (by omega) (by omega)
/-! 56 shortChoice -/
set_option maxHeartbeats 4000000 in
theorem s56_l {G : GH} {h : JH} {r0 : Nat} {m0 : Int} (q0 : IsQ G r0 m0) {f2 : Nat} (q2 : IsF G f2) : ∀ N : Nat, (∀ (h1 : JH) (x3 x5 : Int), Gd G h1 → Kp [(1000000, 0)] h h1 → (-9223372036854775808) ≤ x3 → x3 ≤ 9223372036854775807 → 0 ≤ x5 → x5 ≤ 100 → ((-x5) + 100) < N → jEv (jOk 5) none (fun _ => 0) c56_0 0 0 (PI G [(1000000, 0)] h 0 (-2) 99) (c56_14, [(2, (r0 : Int)), (2, 1), (2, (f2 : Int)), (1, x3), (9, 0), (0, x5)], [], h1, 0, 0)) := by
  intro N
  induction N with
  | zero => exact fun h1 x3 x5 g1 k1 b0 b1 b2 b3 hm => absurd hm (by omega)
  | succ N ih =>
    show _
    intro h1 x3 x5 g1 k1 b0 b1 b2 b3 hm
    have wr0 := g1.qb q0
    have zr0 := q0.1
    refine ev_iload rfl ?_
    refine ev_aload_n rfl ?_
    obtain ⟨v13862, ev13862, lv13862, uv13862⟩ := g1.q0 q0
    refine g_qgetv (v := v13862) g1 q0 ft4_0 ev13862 ?_
    refine ev_icmpge f56_64 (fun c13863 => ?_) (fun c13863 => ?_)
    · refine ev_bipush ?_
      exact ev_ret rfl (by decide) (by decide) ⟨_, rfl, by omega, by omega, g1, k1⟩
    · refine ev_aload_n rfl ?_
      refine g_qgetp g1 q0 (c := 13) (by decide) (by decide) ft4_13 ?_
      refine ev_iload rfl ?_
      refine g_qzald g1 q0 (c := 13) (by decide) (by decide) (by decide) (by omega) (by show x5 < m0; omega) rfl (fun v13864 ev13864 lv13864 uv13864 => ?_)
      refine ev_ifeq f56_58 (fun c13865 => ?_) (fun c13865 => ?_)
      · refine ev_iinc (w := (x5 + 1)) (L' := [(2, (r0 : Int)), (2, 1), (2, (f2 : Int)), (1, x3), (9, 0), (0, (x5 + 1))]) rfl (by unfold w32; omega) rfl ?_
        refine ev_goto f56_14 ?_
        exact ih _ _ _ g1 k1 (by omega) (by omega) (by omega) (by omega) (by omega)
      · refine ev_aload_n rfl ?_
        refine g_qgetp g1 q0 (c := 2) (by decide) (by decide) ft4_2 ?_
        refine ev_iload rfl ?_
        refine g_qiald g1 q0 (c := 2) (by decide) (by decide) (by decide) (by omega) (by show x5 < m0; omega) rfl (fun v13866 ev13866 lv13866 uv13866 => ?_)
        refine ev_iconst ?_
        refine ev_icmpne f56_58 (fun c13867 => ?_) (fun c13867 => ?_)
        · refine ev_iinc (w := (x5 + 1)) (L' := [(2, (r0 : Int)), (2, 1), (2, (f2 : Int)), (1, x3), (9, 0), (0, (x5 + 1))]) rfl (by unfold w32; omega) rfl ?_
          refine ev_goto f56_14 ?_
          exact ih _ _ _ g1 k1 (by omega) (by omega) (by omega) (by omega) (by omega)
        · refine ev_aload_n rfl ?_
          refine ev_iload rfl ?_
          refine ev_aload_n rfl ?_
          refine ev_lload_n rfl ?_
          refine ev_call (jcall_v (A := [(1, x3), (2, (f2 : Int)), (0, x5)]) (S' := []) (r := r0) rfl (g1.qlt q0) (g1.qtg q0) (Nat.le_of_ble_eq_true rfl)) (jOk_le (by decide) (s57 g1 q0 (by omega) (by omega) q2 (by omega) (by omega))) (by decide) (by decide) (fun w13868 h13868 q13868 => ?_)
          obtain ⟨v13869, rfl, lv13869, uv13869, g13868, kk13868⟩ := q13868
          have k13868 := k1.tr kk13868 (by decide)
          show jEv _ _ _ _ _ _ _ (_, [(2, (r0 : Int)), (2, 1), (2, (f2 : Int)), (1, x3), (9, 0), (0, x5)], [(0, v13869)], _, _, _)
          refine ev_ifeq f56_58 (fun c13870 => ?_) (fun c13870 => ?_)
          · refine ev_iinc (w := (x5 + 1)) (L' := [(2, (r0 : Int)), (2, 1), (2, (f2 : Int)), (1, x3), (9, 0), (0, (x5 + 1))]) rfl (by unfold w32; omega) rfl ?_
            refine ev_goto f56_14 ?_
            exact ih _ _ _ g13868 k13868 (by omega) (by omega) (by omega) (by omega) (by omega)
          · refine ev_iload rfl ?_
            exact ev_ret rfl (by decide) (by decide) ⟨_, rfl, by omega, by omega, g13868, k13868⟩
set_option maxHeartbeats 4000000 in
theorem s56 {G : GH} {h : JH} (g : Gd G h) {r0 : Nat} {m0 : Int} (q0 : IsQ G r0 m0) {f2 : Nat} (q2 : IsF G f2) : jOk 6 0 0 56 [(2, (r0 : Int)), (2, 1), (2, (f2 : Int))] h (PI G [(1000000, 0)] h 0 (-2) 99) := by
  refine ⟨by decide, by rw [ml56]; exact Nat.le_of_ble_eq_true rfl, ?_⟩
  rw [ml56, pp56]
  show jEv _ none _ c56_0 0 0 _ (c56_0, [(2, (r0 : Int)), (2, 1), (2, (f2 : Int)), (9, 0), (9, 0), (9, 0)], [], h, 0, 0)
  have k0 := Kp.rf [(1000000, 0)] h
  have wr0 := g.qb q0
  have zr0 := q0.1
  refine ev_aload_n rfl ?_
  refine ev_aload_n rfl ?_
  refine ev_aload_n rfl ?_
  refine ev_call (jcall_v (A := [(2, (f2 : Int)), (2, 1)]) (S' := []) (r := r0) rfl (g.qlt q0) (g.qtg q0) (Nat.le_of_ble_eq_true rfl)) (jOk_le (by decide) (s48 g q0 q2)) (by decide) (by decide) (fun w13871 h13871 q13871 => ?_)
  obtain ⟨v13872, rfl, lv13872, uv13872, g13871, kk13871⟩ := q13871
  have k13871 := k0.tr kk13871 (by decide)
  show jEv _ _ _ _ _ _ _ (_, [(2, (r0 : Int)), (2, 1), (2, (f2 : Int)), (9, 0), (9, 0), (9, 0)], [(1, v13872)], _, _, _)
  refine ev_lstore_n (L' := [(2, (r0 : Int)), (2, 1), (2, (f2 : Int)), (1, v13872), (9, 0), (9, 0)]) (Nat.le_of_ble_eq_true rfl) rfl ?_
  refine ev_aload_n rfl ?_
  refine ev_call (jcall_v (A := []) (S' := []) (r := r0) rfl (g13871.qlt q0) (g13871.qtg q0) (Nat.le_of_ble_eq_true rfl)) (jOk_le (by decide) (s54 g13871 q0)) (by decide) (by decide) (fun w13873 h13873 q13873 => ?_)
  obtain ⟨rfl, g13873, kk13873⟩ := q13873
  have k13873 := k13871.tr kk13873 (by decide)
  show jEv _ _ _ _ _ _ _ (_, [(2, (r0 : Int)), (2, 1), (2, (f2 : Int)), (1, v13872), (9, 0), (9, 0)], [], _, _, _)
  refine ev_iconst ?_
  refine ev_istore (L' := [(2, (r0 : Int)), (2, 1), (2, (f2 : Int)), (1, v13872), (9, 0), (0, 0)]) (Nat.le_of_ble_eq_true rfl) rfl ?_
  exact (s56_l q0 q2 202) _ _ _ g13873 k13873 (by omega) (by omega) (by omega) (by omega) (by omega)
/-! 59 forkTop -/
set_option maxHeartbeats 4000000 in
theorem s59 {G : GH} {h : JH} (g : Gd G h) {r0 : Nat} {m0 : Int} (q0 : IsQ G r0 m0) {a2 : Int} (la2 : 0 ≤ a2) (ua2 : a2 ≤ m0 - 1) {a3 : Int} (la3 : 0 ≤ a3) (ua3 : a3 ≤ 3) : jOk 4 0 0 59 [(2, (r0 : Int)), (2, 1), (0, a2), (0, a3)] h (PI G [] h 1 (-9223372036854775808) 9223372036854775807) := by
  refine ⟨by decide, by rw [ml59]; exact Nat.le_of_ble_eq_true rfl, ?_⟩
  rw [ml59, pp59]
  show jEv _ none _ c59_0 0 0 _ (c59_0, [(2, (r0 : Int)), (2, 1), (0, a2), (0, a3)], [], h, 0, 0)
  have k0 := Kp.rf [] h
  have wr0 := g.qb q0
  have zr0 := q0.1
  refine ev_aload_n rfl ?_
  refine g_qgetp g q0 (c := 12) (by decide) (by decide) ft4_12 ?_
  refine ev_aload_n rfl ?_
  refine ev_iload_n rfl ?_
  refine ev_iload_n rfl ?_
  refine ev_in (d := 2) (a := 0) (b := 0) (cd' := c30_0) (m := 3) (L0 := [(2, (r0 : Int)), (0, a2), (0, a3)]) (jcall_v (A := [(0, a3), (0, a2)]) (S' := [(2, ((r0 + 11 : Nat) : Int))]) (r := r0) rfl (g.qlt q0) (g.qtg q0) (Nat.le_of_ble_eq_true rfl)) (by decide) ml30 pp30 (Nat.le_of_ble_eq_true rfl) rfl (by decide) (by decide) ?_
  refine ev_aload_n rfl ?_
  refine g_qgetp g q0 (c := 5) (by decide) (by decide) ft4_5 ?_
  refine ev_iconst ?_
  refine ev_iload_n rfl ?_
  refine ev_imul (r := (4 * a2)) (by unfold w32; omega) ?_
  refine ev_iload_n rfl ?_
  refine ev_iadd (r := (4 * a2 + a3)) (by unfold w32; omega) ?_
  refine g_qiald g q0 (c := 5) (by decide) (by decide) (by decide) (by omega) (by show (4 * a2 + a3) < 4 * m0; omega) rfl (fun v13898 ev13898 lv13898 uv13898 => ?_)
  refine ev_ret rfl (by decide) (by decide) ?_
  show jEv _ _ _ _ _ _ _ (_, [(2, (r0 : Int)), (2, 1), (0, a2), (0, a3)], [(0, v13898), (2, ((r0 + 11 : Nat) : Int))], _, _, _)
  refine g_qlald g q0 (c := 12) (by decide) (by decide) (by decide) (by omega) (by show v13898 < m0; omega) rfl (fun v13899 ev13899 lv13899 uv13899 => ?_)
  refine ev_bipush ?_
  refine ev_aload_n rfl ?_
  refine g_qgetp g q0 (c := 11) (by decide) (by decide) ft4_11 ?_
  refine ev_iload_n rfl ?_
  refine g_qiald g q0 (c := 11) (by decide) (by decide) (by decide) (by omega) (by show a2 < m0; omega) rfl (fun v13900 ev13900 lv13900 uv13900 => ?_)
  refine g_imulG (fun v13901 ev13901 lv13901 uv13901 => ?_)
  refine ev_i2l ?_
  refine ev_aload_n rfl ?_
  refine ev_aload_n rfl ?_
  refine ev_iload_n rfl ?_
  refine ev_in (d := 2) (a := 0) (b := 0) (cd' := c58_0) (m := 3) (L0 := [(2, (r0 : Int)), (2, 1), (0, a2)]) (jcall_v (A := [(0, a2), (2, 1)]) (S' := [(1, v13901), (1, v13899)]) (r := r0) rfl (g.qlt q0) (g.qtg q0) (Nat.le_of_ble_eq_true rfl)) (by decide) ml58 pp58 (Nat.le_of_ble_eq_true rfl) rfl (by decide) (by decide) ?_
  refine ev_aload_n rfl ?_
  refine ev_aload_n rfl ?_
  refine g_qgetp g q0 (c := 8) (by decide) (by decide) ft4_8 ?_
  refine ev_iload_n rfl ?_
  refine g_qiald g q0 (c := 8) (by decide) (by decide) (by decide) (by omega) (by show a2 < m0; omega) rfl (fun v13902 ev13902 lv13902 uv13902 => ?_)
  refine ev_in (d := 1) (a := 0) (b := 0) (cd' := c161_0) (m := 2) (L0 := [(2, 1), (0, v13902)]) (jcall_v (A := [(0, v13902)]) (S' := []) (r := 1) rfl (g.lt ad1) (g.tg ad1) (Nat.le_of_ble_eq_true rfl)) (by decide) ml161 pp161 (Nat.le_of_ble_eq_true rfl) rfl (by decide) (by decide) ?_
  refine ev_iload_n rfl ?_
  refine ev_iflt f161_12 (fun c13903 => ?_) (fun c13903 => ?_)
  · refine ev_lconst ?_
    refine ev_goto f161_22 ?_
    refine ev_ret rfl (by decide) (by decide) ?_
    show jEv _ _ _ _ _ _ _ (_, [(2, (r0 : Int)), (2, 1), (0, a2)], [(1, 0)], _, _, _)
    refine ev_ret rfl (by decide) (by decide) ?_
    show jEv _ _ _ _ _ _ _ (_, [(2, (r0 : Int)), (2, 1), (0, a2), (0, a3)], [(1, 0), (1, v13901), (1, v13899)], _, _, _)
    refine ev_lmul (r := 0) (by unfold w64; omega) ?_
    refine ev_ladd (r := v13899) (by unfold w64; omega) ?_
    exact ev_ret rfl (by decide) (by decide) ⟨_, rfl, by omega, by omega, g, k0⟩
  · refine ev_iload_n rfl ?_
    refine ev_aload_n rfl ?_
    refine ev_in (d := 0) (a := 0) (b := 0) (cd' := c157_0) (m := 1) (L0 := [(2, 1)]) (jcall_v (A := []) (S' := [(0, v13902)]) (r := 1) rfl (g.lt ad1) (g.tg ad1) (Nat.le_of_ble_eq_true rfl)) (by decide) ml157 pp157 (Nat.le_of_ble_eq_true rfl) rfl (by decide) (by decide) ?_
    refine ev_iconst ?_
    refine ev_iconst ?_
    refine ev_aload_n rfl ?_
    obtain ⟨v13904, ev13904, lv13904, uv13904⟩ := g.rd ad1 (show 0 < 8 by decide) rf1_0
    refine g_getv (r := 1) (v := v13904) g ad1 (by decide) ft10_0 ev13904 ?_
    refine ev_imul (r := (2 * v13904)) (by unfold w32; omega) ?_
    refine g_ishlB (a' := 1) (a := 1) (b := 8) (hi := 256) (by omega) (by omega) (by omega) (by omega) (by decide) (by decide) (fun v13905 ev13905 lv13905 uv13905 => ?_)
    refine ev_ret rfl (by decide) (by decide) ?_
    show jEv _ _ _ _ _ _ _ (_, [(2, 1), (0, v13902)], [(0, v13905), (0, v13902)], _, _, _)
    refine ev_icmplt f161_16 (fun c13906 => ?_) (fun c13906 => ?_)
    · refine ev_aload_n rfl ?_
      refine g_getp (r := 1) (c := 6) g ad1 (by decide) (by decide) rf1_7 ft10_7 ?_
      refine ev_iload_n rfl ?_
      refine g_lald g ad6 rt6 (by omega) (by omega) (fun v13907 ev13907 lv13907 uv13907 => ?_)
      refine ev_ret rfl (by decide) (by decide) ?_
      show jEv _ _ _ _ _ _ _ (_, [(2, (r0 : Int)), (2, 1), (0, a2)], [(1, v13907)], _, _, _)
      refine ev_ret rfl (by decide) (by decide) ?_
      show jEv _ _ _ _ _ _ _ (_, [(2, (r0 : Int)), (2, 1), (0, a2), (0, a3)], [(1, v13907), (1, v13901), (1, v13899)], _, _, _)
      refine g_lmulG (fun v13908 ev13908 lv13908 uv13908 => ?_)
      refine g_laddG (fun v13909 ev13909 lv13909 uv13909 => ?_)
      exact ev_ret rfl (by decide) (by decide) ⟨_, rfl, by omega, by omega, g, k0⟩
    · refine ev_lconst ?_
      refine ev_goto f161_22 ?_
      refine ev_ret rfl (by decide) (by decide) ?_
      show jEv _ _ _ _ _ _ _ (_, [(2, (r0 : Int)), (2, 1), (0, a2)], [(1, 0)], _, _, _)
      refine ev_ret rfl (by decide) (by decide) ?_
      show jEv _ _ _ _ _ _ _ (_, [(2, (r0 : Int)), (2, 1), (0, a2), (0, a3)], [(1, 0), (1, v13901), (1, v13899)], _, _, _)
      refine ev_lmul (r := 0) (by unfold w64; omega) ?_
      refine ev_ladd (r := v13899) (by unfold w64; omega) ?_
      exact ev_ret rfl (by decide) (by decide) ⟨_, rfl, by omega, by omega, g, k0⟩
/-! 61 turnsFirst -/
set_option maxHeartbeats 4000000 in
theorem s61_l {G : GH} {h : JH} {r0 : Nat} {m0 : Int} (q0 : IsQ G r0 m0) {a1 : Int} (la1 : 0 ≤ a1) (ua1 : a1 ≤ m0 - 1) {a2 : Int} (la2 : (-9223372036854775808) ≤ a2) (ua2 : a2 ≤ 9223372036854775807) : ∀ N : Nat, (∀ (h1 : JH) (x4 x5 x7 : Int) (j8 j9 : AV), Gd G h1 → Kp [] h h1 → 0 ≤ a1 → a1 ≤ 99 → (-9223372036854775808) ≤ a2 → a2 ≤ 9223372036854775807 → 0 ≤ x4 → x4 ≤ 99 → x4 ≤ m0 - 1 → (-9223372036854775808) ≤ x5 → x5 ≤ 9223372036854775807 → 0 ≤ x7 → x7 ≤ 100 → ((-x7) + 100) < N → jEv (jOk 2) none (fun _ => 0) c61_0 0 0 (PI G [] h 0 0 1) (c61_16, [(2, (r0 : Int)), (0, a1), (1, a2), (9, 0), (0, x4), (1, x5), (9, 0), (0, x7), j8, j9], [], h1, 0, 0)) := by
  intro N
  induction N with
  | zero => exact fun h1 x4 x5 x7 j8 j9 g1 k1 b0 b1 b2 b3 b4 b5 b6 b7 b8 b9 b10 hm => absurd hm (by omega)
  | succ N ih =>
    show _
    intro h1 x4 x5 x7 j8 j9 g1 k1 b0 b1 b2 b3 b4 b5 b6 b7 b8 b9 b10 hm
    have wr0 := g1.qb q0
    have zr0 := q0.1
    refine ev_iload rfl ?_
    refine ev_aload_n rfl ?_
    obtain ⟨v14811, ev14811, lv14811, uv14811⟩ := g1.q0 q0
    refine g_qgetv (v := v14811) g1 q0 ft4_0 ev14811 ?_
    refine ev_icmpge f61_175 (fun c14812 => ?_) (fun c14812 => ?_)
    · refine ev_iconst ?_
      exact ev_ret rfl (by decide) (by decide) ⟨_, rfl, by omega, by omega, g1, k1⟩
    · refine ev_aload_n rfl ?_
      obtain ⟨v14813, ev14813, lv14813, uv14813⟩ := g1.q1 q0
      refine g_qgetv (v := v14813) g1 q0 ft4_1 ev14813 ?_
      refine ev_iflt f61_175 (fun c14814 => ?_) (fun c14814 => ?_)
      · refine ev_iconst ?_
        exact ev_ret rfl (by decide) (by decide) ⟨_, rfl, by omega, by omega, g1, k1⟩
      · refine ev_iload rfl ?_
        refine ev_aload_n rfl ?_
        refine g_qgetv (v := v14813) g1 q0 ft4_1 (ev14813) ?_
        refine ev_icmple f61_175 (fun c14815 => ?_) (fun c14815 => ?_)
        · refine ev_iconst ?_
          exact ev_ret rfl (by decide) (by decide) ⟨_, rfl, by omega, by omega, g1, k1⟩
        · refine ev_aload_n rfl ?_
          refine g_qgetp g1 q0 (c := 7) (by decide) (by decide) ft4_7 ?_
          refine ev_iload rfl ?_
          refine g_qiald g1 q0 (c := 7) (by decide) (by decide) (by decide) (by omega) (by show x4 < m0; omega) rfl (fun v14816 ev14816 lv14816 uv14816 => ?_)
          refine ev_istore (L' := [(2, (r0 : Int)), (0, a1), (1, a2), (9, 0), (0, x4), (1, x5), (9, 0), (0, x7), (0, v14816), j9]) (Nat.le_of_ble_eq_true rfl) rfl ?_
          refine ev_iload rfl ?_
          refine ev_ifge f61_57 (fun c14817 => ?_) (fun c14817 => ?_)
          · refine ev_iload rfl ?_
            refine ev_aload_n rfl ?_
            refine g_qgetv (v := v14813) g1 q0 ft4_1 (ev14813) ?_
            refine ev_icmpne f61_92 (fun c14818 => ?_) (fun c14818 => ?_)
            · refine ev_aload_n rfl ?_
              refine g_qgetp g1 q0 (c := 2) (by decide) (by decide) ft4_2 ?_
              refine ev_iload rfl ?_
              refine g_qiald g1 q0 (c := 2) (by decide) (by decide) (by decide) (by omega) (by show v14816 < m0; omega) rfl (fun v14819 ev14819 lv14819 uv14819 => ?_)
              refine ev_iconst ?_
              refine ev_icmpne f61_145 (fun c14820 => ?_) (fun c14820 => ?_)
              · refine ev_lload rfl ?_
                refine ev_aload_n rfl ?_
                refine g_qgetp g1 q0 (c := 12) (by decide) (by decide) ft4_12 ?_
                refine ev_iload rfl ?_
                refine g_qlald g1 q0 (c := 12) (by decide) (by decide) (by decide) (by omega) (by show v14816 < m0; omega) rfl (fun v14821 ev14821 lv14821 uv14821 => ?_)
                refine ev_aload_n rfl ?_
                refine g_qgetp g1 q0 (c := 12) (by decide) (by decide) ft4_12 ?_
                refine ev_iload rfl ?_
                refine g_qlald g1 q0 (c := 12) (by decide) (by decide) (by decide) (by omega) (by show x4 < m0; omega) rfl (fun v14822 ev14822 lv14822 uv14822 => ?_)
                refine g_lsubG (fun v14823 ev14823 lv14823 uv14823 => ?_)
                refine g_laddG (fun v14824 ev14824 lv14824 uv14824 => ?_)
                refine ev_lstore (L' := [(2, (r0 : Int)), (0, a1), (1, a2), (9, 0), (0, x4), (1, v14824), (9, 0), (0, x7), (0, v14816), j9]) (Nat.le_of_ble_eq_true rfl) rfl ?_
                refine ev_iload rfl ?_
                refine ev_istore (L' := [(2, (r0 : Int)), (0, a1), (1, a2), (9, 0), (0, v14816), (1, v14824), (9, 0), (0, x7), (0, v14816), j9]) (Nat.le_of_ble_eq_true rfl) rfl ?_
                refine ev_iinc (w := (x7 + 1)) (L' := [(2, (r0 : Int)), (0, a1), (1, a2), (9, 0), (0, v14816), (1, v14824), (9, 0), (0, (x7 + 1)), (0, v14816), j9]) rfl (by unfold w32; omega) rfl ?_
                refine ev_goto f61_16 ?_
                exact ih _ _ _ _ _ _ g1 k1 (by omega) (by omega) (by omega) (by omega) (by omega) (by omega) (by omega) (by omega) (by omega) (by omega) (by omega) (by omega)
              · refine ev_aload_n rfl ?_
                refine ev_iload rfl ?_
                refine ev_aload_n rfl ?_
                refine ev_iload rfl ?_
                refine ev_iload rfl ?_
                refine ev_lload rfl ?_
                refine ev_call (jcall_v (A := [(1, x5), (0, x4), (0, v14816)]) (S' := [(0, v14816), (2, (r0 : Int))]) (r := r0) rfl (g1.qlt q0) (g1.qtg q0) (Nat.le_of_ble_eq_true rfl)) (jOk_le (by decide) (s45 g1 q0 (by omega) (by omega) (by omega) (by omega) (by omega) (by omega))) (by decide) (by decide) (fun w14825 h14825 q14825 => ?_)
                obtain ⟨v14826, rfl, lv14826, uv14826, g14825, kk14825⟩ := q14825
                have k14825 := k1.tr kk14825 (by decide)
                show jEv _ _ _ _ _ _ _ (_, [(2, (r0 : Int)), (0, a1), (1, a2), (9, 0), (0, x4), (1, x5), (9, 0), (0, x7), (0, v14816), j9], [(0, v14826), (0, v14816), (2, (r0 : Int))], _, _, _)
                refine ev_in (d := 1) (a := 0) (b := 0) (cd' := c30_0) (m := 3) (L0 := [(2, (r0 : Int)), (0, v14816), (0, v14826)]) (jcall_v (A := [(0, v14826), (0, v14816)]) (S' := []) (r := r0) rfl (g14825.qlt q0) (g14825.qtg q0) (Nat.le_of_ble_eq_true rfl)) (by decide) ml30 pp30 (Nat.le_of_ble_eq_true rfl) rfl (by decide) (by decide) ?_
                refine ev_aload_n rfl ?_
                refine g_qgetp g14825 q0 (c := 5) (by decide) (by decide) ft4_5 ?_
                refine ev_iconst ?_
                refine ev_iload_n rfl ?_
                refine ev_imul (r := (4 * v14816)) (by unfold w32; omega) ?_
                refine ev_iload_n rfl ?_
                refine ev_iadd (r := (4 * v14816 + v14826)) (by unfold w32; omega) ?_
                refine g_qiald g14825 q0 (c := 5) (by decide) (by decide) (by decide) (by omega) (by show (4 * v14816 + v14826) < 4 * m0; omega) rfl (fun v14827 ev14827 lv14827 uv14827 => ?_)
                refine ev_ret rfl (by decide) (by decide) ?_
                show jEv _ _ _ _ _ _ _ (_, [(2, (r0 : Int)), (0, a1), (1, a2), (9, 0), (0, x4), (1, x5), (9, 0), (0, x7), (0, v14816), j9], [(0, v14827)], _, _, _)
                refine ev_istore (L' := [(2, (r0 : Int)), (0, a1), (1, a2), (9, 0), (0, x4), (1, x5), (9, 0), (0, x7), (0, v14816), (0, v14827)]) (Nat.le_of_ble_eq_true rfl) rfl ?_
                refine ev_iload rfl ?_
                refine ev_iload rfl ?_
                refine ev_icmpne f61_133 (fun c14828 => ?_) (fun c14828 => ?_)
                · refine ev_aload_n rfl ?_
                  refine g_qgetp g14825 q0 (c := 12) (by decide) (by decide) ft4_12 ?_
                  refine ev_iload rfl ?_
                  refine g_qlald g14825 q0 (c := 12) (by decide) (by decide) (by decide) (by omega) (by show v14827 < m0; omega) rfl (fun v14829 ev14829 lv14829 uv14829 => ?_)
                  refine ev_lstore (L' := [(2, (r0 : Int)), (0, a1), (1, a2), (9, 0), (0, x4), (1, v14829), (9, 0), (0, x7), (0, v14816), (0, v14827)]) (Nat.le_of_ble_eq_true rfl) rfl ?_
                  refine ev_goto f61_165 ?_
                  refine ev_iload rfl ?_
                  refine ev_istore (L' := [(2, (r0 : Int)), (0, a1), (1, a2), (9, 0), (0, v14816), (1, v14829), (9, 0), (0, x7), (0, v14816), (0, v14827)]) (Nat.le_of_ble_eq_true rfl) rfl ?_
                  refine ev_iinc (w := (x7 + 1)) (L' := [(2, (r0 : Int)), (0, a1), (1, a2), (9, 0), (0, v14816), (1, v14829), (9, 0), (0, (x7 + 1)), (0, v14816), (0, v14827)]) rfl (by unfold w32; omega) rfl ?_
                  refine ev_goto f61_16 ?_
                  exact ih _ _ _ _ _ _ g14825 k14825 (by omega) (by omega) (by omega) (by omega) (by omega) (by omega) (by omega) (by omega) (by omega) (by omega) (by omega) (by omega)
                · refine ev_lload rfl ?_
                  refine ev_goto f61_140 ?_
                  refine ev_lstore (L' := [(2, (r0 : Int)), (0, a1), (1, a2), (9, 0), (0, x4), (1, x5), (9, 0), (0, x7), (0, v14816), (0, v14827)]) (Nat.le_of_ble_eq_true rfl) rfl ?_
                  refine ev_goto f61_165 ?_
                  refine ev_iload rfl ?_
                  refine ev_istore (L' := [(2, (r0 : Int)), (0, a1), (1, a2), (9, 0), (0, v14816), (1, x5), (9, 0), (0, x7), (0, v14816), (0, v14827)]) (Nat.le_of_ble_eq_true rfl) rfl ?_
                  refine ev_iinc (w := (x7 + 1)) (L' := [(2, (r0 : Int)), (0, a1), (1, a2), (9, 0), (0, v14816), (1, x5), (9, 0), (0, (x7 + 1)), (0, v14816), (0, v14827)]) rfl (by unfold w32; omega) rfl ?_
                  refine ev_goto f61_16 ?_
                  exact ih _ _ _ _ _ _ g14825 k14825 (by omega) (by omega) (by omega) (by omega) (by omega) (by omega) (by omega) (by omega) (by omega) (by omega) (by omega) (by omega)
            · refine ev_aload_n rfl ?_
              refine ev_iload rfl ?_
              refine ev_iload rfl ?_
              refine ev_lload rfl ?_
              refine ev_call (jcall_v (A := [(1, x5), (0, x4), (0, v14816)]) (S' := []) (r := r0) rfl (g1.qlt q0) (g1.qtg q0) (Nat.le_of_ble_eq_true rfl)) (jOk_le (by decide) (s45 g1 q0 (by omega) (by omega) (by omega) (by omega) (by omega) (by omega))) (by decide) (by decide) (fun w14830 h14830 q14830 => ?_)
              obtain ⟨v14831, rfl, lv14831, uv14831, g14830, kk14830⟩ := q14830
              have k14830 := k1.tr kk14830 (by decide)
              show jEv _ _ _ _ _ _ _ (_, [(2, (r0 : Int)), (0, a1), (1, a2), (9, 0), (0, x4), (1, x5), (9, 0), (0, x7), (0, v14816), j9], [(0, v14831)], _, _, _)
              refine ev_aload_n rfl ?_
              refine g_qgetp g14830 q0 (c := 10) (by decide) (by decide) ft4_10 ?_
              refine ev_iload rfl ?_
              refine g_qiald g14830 q0 (c := 10) (by decide) (by decide) (by decide) (by omega) (by show v14816 < m0; omega) rfl (fun v14832 ev14832 lv14832 uv14832 => ?_)
              refine ev_icmpeq f61_90 (fun c14833 => ?_) (fun c14833 => ?_)
              · refine ev_iconst ?_
                exact ev_ret rfl (by decide) (by decide) ⟨_, rfl, by omega, by omega, g14830, k14830⟩
              · refine ev_iconst ?_
                refine ev_goto f61_91 ?_
                exact ev_ret rfl (by decide) (by decide) ⟨_, rfl, by omega, by omega, g14830, k14830⟩
          · refine ev_iconst ?_
            exact ev_ret rfl (by decide) (by decide) ⟨_, rfl, by omega, by omega, g1, k1⟩
set_option maxHeartbeats 4000000 in
theorem s61 {G : GH} {h : JH} (g : Gd G h) {r0 : Nat} {m0 : Int} (q0 : IsQ G r0 m0) {a1 : Int} (la1 : 0 ≤ a1) (ua1 : a1 ≤ m0 - 1) {a2 : Int} (la2 : (-9223372036854775808) ≤ a2) (ua2 : a2 ≤ 9223372036854775807) : jOk 3 0 0 61 [(2, (r0 : Int)), (0, a1), (1, a2)] h (PI G [] h 0 0 1) := by
  refine ⟨by decide, by rw [ml61]; exact Nat.le_of_ble_eq_true rfl, ?_⟩
  rw [ml61, pp61]
  show jEv _ none _ c61_0 0 0 _ (c61_0, [(2, (r0 : Int)), (0, a1), (1, a2), (9, 0), (9, 0), (9, 0), (9, 0), (9, 0), (9, 0), (9, 0)], [], h, 0, 0)
  have k0 := Kp.rf [] h
  have wr0 := g.qb q0
  have zr0 := q0.1
  refine ev_iload_n rfl ?_
  refine ev_istore (L' := [(2, (r0 : Int)), (0, a1), (1, a2), (9, 0), (0, a1), (9, 0), (9, 0), (9, 0), (9, 0), (9, 0)]) (Nat.le_of_ble_eq_true rfl) rfl ?_
  refine ev_aload_n rfl ?_
  refine g_qgetp g q0 (c := 12) (by decide) (by decide) ft4_12 ?_
  refine ev_iload_n rfl ?_
  refine g_qlald g q0 (c := 12) (by decide) (by decide) (by decide) (by omega) (by show a1 < m0; omega) rfl (fun v14834 ev14834 lv14834 uv14834 => ?_)
  refine ev_lload_n rfl ?_
  refine g_laddG (fun v14835 ev14835 lv14835 uv14835 => ?_)
  refine ev_lstore (L' := [(2, (r0 : Int)), (0, a1), (1, a2), (9, 0), (0, a1), (1, v14835), (9, 0), (9, 0), (9, 0), (9, 0)]) (Nat.le_of_ble_eq_true rfl) rfl ?_
  refine ev_iconst ?_
  refine ev_istore (L' := [(2, (r0 : Int)), (0, a1), (1, a2), (9, 0), (0, a1), (1, v14835), (9, 0), (0, 0), (9, 0), (9, 0)]) (Nat.le_of_ble_eq_true rfl) rfl ?_
  exact (s61_l q0 la1 ua1 la2 ua2 202) _ _ _ _ _ _ g k0 (by omega) (by omega) (by omega) (by omega) (by omega) (by omega) (by omega) (by omega) (by omega) (by omega) (by omega) (by omega)
/-! 60 movesToTurn -/
set_option maxHeartbeats 4000000 in
theorem s60_l {G : GH} {h : JH} {r0 : Nat} {m0 : Int} (q0 : IsQ G r0 m0) {a2 : Int} (la2 : 0 ≤ a2) (ua2 : a2 ≤ m0 - 1) {a3 : Int} (la3 : (-1) ≤ a3) (ua3 : a3 ≤ 3) {a4 : Int} (la4 : 0 ≤ a4) (ua4 : a4 ≤ 1) {a5 : Int} (la5 : 0 ≤ a5) (ua5 : a5 ≤ 40) : ∀ N : Nat, (∀ (h1 : JH) (x6 x7 x8 x9 x10 x12 : Int), Gd G h1 → Kp [] h h1 → 0 ≤ a2 → a2 ≤ 99 → (-1) ≤ a3 → a3 ≤ 3 → 0 ≤ a4 → a4 ≤ 1 → 1 ≤ a5 → a5 ≤ 40 → 0 ≤ x6 → x6 ≤ 99 → x6 ≤ m0 - 1 → (-2147483648) ≤ x7 → x7 ≤ 2147483647 → 99 ≤ x8 → x8 ≤ 999 → 1 ≤ x9 → x9 ≤ 40 → (-9223372036854775808) ≤ x10 → x10 ≤ 9223372036854775807 → 1 ≤ x12 → x12 ≤ 40 → ((-x12) + 40) < N → jEv (jOk 3) none (fun _ => 0) c60_0 0 0 (PI G [] h 0 0 40) (c60_154, [(2, (r0 : Int)), (2, 1), (0, a2), (0, a3), (0, a4), (0, a5), (0, x6), (0, x7), (0, x8), (0, x9), (1, x10), (9, 0), (0, x12)], [], h1, 0, 0)) := by
  intro N
  induction N with
  | zero => exact fun h1 x6 x7 x8 x9 x10 x12 g1 k1 b0 b1 b2 b3 b4 b5 b6 b7 b8 b9 b10 b11 b12 b13 b14 b15 b16 b17 b18 b19 b20 hm => absurd hm (by omega)
  | succ N ih =>
    show _
    intro h1 x6 x7 x8 x9 x10 x12 g1 k1 b0 b1 b2 b3 b4 b5 b6 b7 b8 b9 b10 b11 b12 b13 b14 b15 b16 b17 b18 b19 b20 hm
    have wr0 := g1.qb q0
    have zr0 := q0.1
    refine ev_iload rfl ?_
    refine ev_iload rfl ?_
    refine ev_icmpge f60_185 (fun c15371 => ?_) (fun c15371 => ?_)
    · refine ev_iload rfl ?_
      exact ev_ret rfl (by decide) (by decide) ⟨_, rfl, by omega, by omega, g1, k1⟩
    · refine ev_aload_n rfl ?_
      refine ev_iload rfl ?_
      refine ev_iload rfl ?_
      refine ev_i2l ?_
      refine ev_lload rfl ?_
      refine g_lmulG (fun v15372 ev15372 lv15372 uv15372 => ?_)
      refine ev_call (jcall_v (A := [(1, v15372), (0, x6)]) (S' := []) (r := r0) rfl (g1.qlt q0) (g1.qtg q0) (Nat.le_of_ble_eq_true rfl)) (jOk_le (by decide) (s61 g1 q0 (by omega) (by omega) (by omega) (by omega))) (by decide) (by decide) (fun w15373 h15373 q15373 => ?_)
      obtain ⟨v15374, rfl, lv15374, uv15374, g15373, kk15373⟩ := q15373
      have k15373 := k1.tr kk15373 (by decide)
      show jEv _ _ _ _ _ _ _ (_, [(2, (r0 : Int)), (2, 1), (0, a2), (0, a3), (0, a4), (0, a5), (0, x6), (0, x7), (0, x8), (0, x9), (1, x10), (9, 0), (0, x12)], [(0, v15374)], _, _, _)
      refine ev_ifeq f60_179 (fun c15375 => ?_) (fun c15375 => ?_)
      · refine ev_iinc (w := (x12 + 1)) (L' := [(2, (r0 : Int)), (2, 1), (0, a2), (0, a3), (0, a4), (0, a5), (0, x6), (0, x7), (0, x8), (0, x9), (1, x10), (9, 0), (0, (x12 + 1))]) rfl (by unfold w32; omega) rfl ?_
        refine ev_goto f60_154 ?_
        exact ih _ _ _ _ _ _ _ g15373 k15373 (by omega) (by omega) (by omega) (by omega) (by omega) (by omega) (by omega) (by omega) (by omega) (by omega) (by omega) (by omega) (by omega) (by omega) (by omega) (by omega) (by omega) (by omega) (by omega) (by omega) (by omega) (by omega)
      · refine ev_iload rfl ?_
        exact ev_ret rfl (by decide) (by decide) ⟨_, rfl, by omega, by omega, g15373, k15373⟩
set_option maxHeartbeats 4000000 in
theorem s60 {G : GH} {h : JH} (g : Gd G h) {r0 : Nat} {m0 : Int} (q0 : IsQ G r0 m0) {a2 : Int} (la2 : 0 ≤ a2) (ua2 : a2 ≤ m0 - 1) {a3 : Int} (la3 : (-1) ≤ a3) (ua3 : a3 ≤ 3) {a4 : Int} (la4 : 0 ≤ a4) (ua4 : a4 ≤ 1) {a5 : Int} (la5 : 0 ≤ a5) (ua5 : a5 ≤ 40) : jOk 4 0 0 60 [(2, (r0 : Int)), (2, 1), (0, a2), (0, a3), (0, a4), (0, a5)] h (PI G [] h 0 0 40) := by
  refine ⟨by decide, by rw [ml60]; exact Nat.le_of_ble_eq_true rfl, ?_⟩
  rw [ml60, pp60]
  show jEv _ none _ c60_0 0 0 _ (c60_0, [(2, (r0 : Int)), (2, 1), (0, a2), (0, a3), (0, a4), (0, a5), (9, 0), (9, 0), (9, 0), (9, 0), (9, 0), (9, 0), (9, 0)], [], h, 0, 0)
  have k0 := Kp.rf [] h
  have wr0 := g.qb q0
  have zr0 := q0.1
  refine ev_iload_n rfl ?_
  refine ev_iconst ?_
  refine ev_icmpne f60_9 (fun c15376 => ?_) (fun c15376 => ?_)
  · refine ev_aload_n rfl ?_
    refine ev_iload_n rfl ?_
    refine ev_iload_n rfl ?_
    refine ev_in (d := 2) (a := 0) (b := 0) (cd' := c30_0) (m := 3) (L0 := [(2, (r0 : Int)), (0, a2), (0, a3)]) (jcall_v (A := [(0, a3), (0, a2)]) (S' := []) (r := r0) rfl (g.qlt q0) (g.qtg q0) (Nat.le_of_ble_eq_true rfl)) (by decide) ml30 pp30 (Nat.le_of_ble_eq_true rfl) rfl (by decide) (by decide) ?_
    refine ev_aload_n rfl ?_
    refine g_qgetp g q0 (c := 5) (by decide) (by decide) ft4_5 ?_
    refine ev_iconst ?_
    refine ev_iload_n rfl ?_
    refine ev_imul (r := (4 * a2)) (by unfold w32; omega) ?_
    refine ev_iload_n rfl ?_
    refine ev_iadd (r := (4 * a2 + a3)) (by unfold w32; omega) ?_
    refine g_qiald g q0 (c := 5) (by decide) (by decide) (by decide) (by omega) (by show (4 * a2 + a3) < 4 * m0; omega) rfl (fun v15377 ev15377 lv15377 uv15377 => ?_)
    refine ev_ret rfl (by decide) (by decide) ?_
    show jEv _ _ _ _ _ _ _ (_, [(2, (r0 : Int)), (2, 1), (0, a2), (0, a3), (0, a4), (0, a5), (9, 0), (9, 0), (9, 0), (9, 0), (9, 0), (9, 0), (9, 0)], [(0, v15377)], _, _, _)
    refine ev_istore (L' := [(2, (r0 : Int)), (2, 1), (0, a2), (0, a3), (0, a4), (0, a5), (0, v15377), (9, 0), (9, 0), (9, 0), (9, 0), (9, 0), (9, 0)]) (Nat.le_of_ble_eq_true rfl) rfl ?_
    refine ev_aload_n rfl ?_
    refine ev_iload_n rfl ?_
    refine ev_iload_n rfl ?_
    refine ev_in (d := 2) (a := 0) (b := 0) (cd' := c34_0) (m := 3) (L0 := [(2, (r0 : Int)), (0, a2), (0, a3)]) (jcall_v (A := [(0, a3), (0, a2)]) (S' := []) (r := r0) rfl (g.qlt q0) (g.qtg q0) (Nat.le_of_ble_eq_true rfl)) (by decide) ml34 pp34 (Nat.le_of_ble_eq_true rfl) rfl (by decide) (by decide) ?_
    refine ev_iload_n rfl ?_
    refine ev_iconst ?_
    refine ev_icmpne f34_14 (fun c15378 => ?_) (fun c15378 => absurd c15378 (by omega))
    refine ev_aload_n rfl ?_
    refine ev_iload_n rfl ?_
    refine ev_iload_n rfl ?_
    refine ev_in (d := 1) (a := 0) (b := 0) (cd' := c31_0) (m := 3) (L0 := [(2, (r0 : Int)), (0, a2), (0, a3)]) (jcall_v (A := [(0, a3), (0, a2)]) (S' := []) (r := r0) rfl (g.qlt q0) (g.qtg q0) (Nat.le_of_ble_eq_true rfl)) (by decide) ml31 pp31 (Nat.le_of_ble_eq_true rfl) rfl (by decide) (by decide) ?_
    refine ev_aload_n rfl ?_
    refine g_qgetp g q0 (c := 6) (by decide) (by decide) ft4_6 ?_
    refine ev_iconst ?_
    refine ev_iload_n rfl ?_
    refine ev_imul (r := (4 * a2)) (by unfold w32; omega) ?_
    refine ev_iload_n rfl ?_
    refine ev_iadd (r := (4 * a2 + a3)) (by unfold w32; omega) ?_
    refine g_qiald g q0 (c := 6) (by decide) (by decide) (by decide) (by omega) (by show (4 * a2 + a3) < 4 * m0; omega) rfl (fun v15379 ev15379 lv15379 uv15379 => ?_)
    refine ev_ret rfl (by decide) (by decide) ?_
    show jEv _ _ _ _ _ _ _ (_, [(2, (r0 : Int)), (0, a2), (0, a3)], [(0, v15379)], _, _, _)
    refine ev_ret rfl (by decide) (by decide) ?_
    show jEv _ _ _ _ _ _ _ (_, [(2, (r0 : Int)), (2, 1), (0, a2), (0, a3), (0, a4), (0, a5), (0, v15377), (9, 0), (9, 0), (9, 0), (9, 0), (9, 0), (9, 0)], [(0, v15379)], _, _, _)
    refine ev_istore (L' := [(2, (r0 : Int)), (2, 1), (0, a2), (0, a3), (0, a4), (0, a5), (0, v15377), (0, v15379), (9, 0), (9, 0), (9, 0), (9, 0), (9, 0)]) (Nat.le_of_ble_eq_true rfl) rfl ?_
    refine ev_iload_n rfl ?_
    refine ev_iconst ?_
    refine ev_icmpne f60_36 (fun c15380 => ?_) (fun c15380 => absurd c15380 (by omega))
    refine ev_bipush ?_
    refine ev_istore (L' := [(2, (r0 : Int)), (2, 1), (0, a2), (0, a3), (0, a4), (0, a5), (0, v15377), (0, v15379), (0, 99), (9, 0), (9, 0), (9, 0), (9, 0)]) (Nat.le_of_ble_eq_true rfl) rfl ?_
    refine ev_iload rfl ?_
    refine ev_iload rfl ?_
    refine ev_iconst ?_
    refine ev_icmpne f60_56 (fun c15381 => ?_) (fun c15381 => ?_)
    · refine ev_iload_n rfl ?_
      refine ev_iconst ?_
      refine ev_icmpne f60_70 (fun c15382 => ?_) (fun c15382 => absurd c15382 (by omega))
      refine ev_iload rfl ?_
      refine ev_in (d := 2) (a := 0) (b := 0) (cd' := c381_0) (m := 2) (L0 := [(0, a5), (0, v15379)]) (jcall_s (A := [(0, v15379), (0, a5)]) (S' := []) (by decide) rfl (Nat.le_of_ble_eq_true rfl)) (by decide) ml381 pp381 (Nat.le_of_ble_eq_true rfl) rfl (by decide) (by decide) ?_
      refine ev_iload_n rfl ?_
      refine ev_iload_n rfl ?_
      refine ev_icmpgt f381_9 (fun c15383 => ?_) (fun c15383 => ?_)
      · refine ev_iload_n rfl ?_
        refine ev_ret rfl (by decide) (by decide) ?_
        show jEv _ _ _ _ _ _ _ (_, [(2, (r0 : Int)), (2, 1), (0, a2), (0, a3), (0, a4), (0, a5), (0, v15377), (0, v15379), (0, 99), (9, 0), (9, 0), (9, 0), (9, 0)], [(0, v15379)], _, _, _)
        refine ev_istore (L' := [(2, (r0 : Int)), (2, 1), (0, a2), (0, a3), (0, a4), (0, a5), (0, v15377), (0, v15379), (0, 99), (0, v15379), (9, 0), (9, 0), (9, 0)]) (Nat.le_of_ble_eq_true rfl) rfl ?_
        refine ev_iload_n rfl ?_
        refine ev_iconst ?_
        refine ev_icmpne f60_86 (fun c15384 => ?_) (fun c15384 => absurd c15384 (by omega))
        refine ev_iconst ?_
        refine ev_iload rfl ?_
        refine ev_iconst ?_
        refine ev_icmpne f60_97 (fun c15385 => ?_) (fun c15385 => absurd c15385 (by omega))
        refine ev_iconst ?_
        refine ev_icmpne f60_115 (fun c15386 => absurd c15386 (by omega)) (fun c15386 => ?_)
        refine ev_ldc2_w ?_
        refine ev_aload_n rfl ?_
        refine ev_aload_n rfl ?_
        refine ev_iload rfl ?_
        refine ev_in (d := 2) (a := 0) (b := 0) (cd' := c58_0) (m := 3) (L0 := [(2, (r0 : Int)), (2, 1), (0, v15377)]) (jcall_v (A := [(0, v15377), (2, 1)]) (S' := [(1, 100)]) (r := r0) rfl (g.qlt q0) (g.qtg q0) (Nat.le_of_ble_eq_true rfl)) (by decide) ml58 pp58 (Nat.le_of_ble_eq_true rfl) rfl (by decide) (by decide) ?_
        refine ev_aload_n rfl ?_
        refine ev_aload_n rfl ?_
        refine g_qgetp g q0 (c := 8) (by decide) (by decide) ft4_8 ?_
        refine ev_iload_n rfl ?_
        refine g_qiald g q0 (c := 8) (by decide) (by decide) (by decide) (by omega) (by show v15377 < m0; omega) rfl (fun v15387 ev15387 lv15387 uv15387 => ?_)
        refine ev_in (d := 1) (a := 0) (b := 0) (cd' := c161_0) (m := 2) (L0 := [(2, 1), (0, v15387)]) (jcall_v (A := [(0, v15387)]) (S' := []) (r := 1) rfl (g.lt ad1) (g.tg ad1) (Nat.le_of_ble_eq_true rfl)) (by decide) ml161 pp161 (Nat.le_of_ble_eq_true rfl) rfl (by decide) (by decide) ?_
        refine ev_iload_n rfl ?_
        refine ev_iflt f161_12 (fun c15388 => ?_) (fun c15388 => ?_)
        · refine ev_lconst ?_
          refine ev_goto f161_22 ?_
          refine ev_ret rfl (by decide) (by decide) ?_
          show jEv _ _ _ _ _ _ _ (_, [(2, (r0 : Int)), (2, 1), (0, v15377)], [(1, 0)], _, _, _)
          refine ev_ret rfl (by decide) (by decide) ?_
          show jEv _ _ _ _ _ _ _ (_, [(2, (r0 : Int)), (2, 1), (0, a2), (0, a3), (0, a4), (0, a5), (0, v15377), (0, v15379), (0, 99), (0, v15379), (9, 0), (9, 0), (9, 0)], [(1, 0), (1, 100)], _, _, _)
          refine ev_lmul (r := 0) (by decide) ?_
          refine ev_goto f60_126 ?_
          refine ev_lstore (L' := [(2, (r0 : Int)), (2, 1), (0, a2), (0, a3), (0, a4), (0, a5), (0, v15377), (0, v15379), (0, 99), (0, v15379), (1, 0), (9, 0), (9, 0)]) (Nat.le_of_ble_eq_true rfl) rfl ?_
          refine ev_iload rfl ?_
          refine ev_iconst ?_
          refine ev_icmplt f60_149 (fun c15389 => ?_) (fun c15389 => ?_)
          · refine ev_iconst ?_
            exact ev_ret rfl (by decide) (by decide) ⟨_, rfl, by omega, by omega, g, k0⟩
          · refine ev_aload_n rfl ?_
            refine ev_iload rfl ?_
            refine ev_iload rfl ?_
            refine ev_i2l ?_
            refine ev_lload rfl ?_
            refine ev_lmul (r := 0) (by unfold w64; omega) ?_
            refine ev_call (jcall_v (A := [(1, 0), (0, v15377)]) (S' := []) (r := r0) rfl (g.qlt q0) (g.qtg q0) (Nat.le_of_ble_eq_true rfl)) (jOk_le (by decide) (s61 g q0 (by omega) (by omega) (by omega) (by omega))) (by decide) (by decide) (fun w15390 h15390 q15390 => ?_)
            obtain ⟨v15391, rfl, lv15391, uv15391, g15390, kk15390⟩ := q15390
            have k15390 := k0.tr kk15390 (by decide)
            show jEv _ _ _ _ _ _ _ (_, [(2, (r0 : Int)), (2, 1), (0, a2), (0, a3), (0, a4), (0, a5), (0, v15377), (0, v15379), (0, 99), (0, v15379), (1, 0), (9, 0), (9, 0)], [(0, v15391)], _, _, _)
            refine ev_ifne f60_151 (fun c15392 => ?_) (fun c15392 => ?_)
            · refine ev_iconst ?_
              refine ev_istore (L' := [(2, (r0 : Int)), (2, 1), (0, a2), (0, a3), (0, a4), (0, a5), (0, v15377), (0, v15379), (0, 99), (0, v15379), (1, 0), (9, 0), (0, 1)]) (Nat.le_of_ble_eq_true rfl) rfl ?_
              exact (s60_l q0 la2 ua2 la3 ua3 la4 ua4 la5 ua5 80) _ _ _ _ _ _ _ g15390 k15390 (by omega) (by omega) (by omega) (by omega) (by omega) (by omega) (by omega) (by omega) (by omega) (by omega) (by omega) (by omega) (by omega) (by omega) (by omega) (by omega) (by omega) (by omega) (by omega) (by omega) (by omega) (by omega)
            · refine ev_iconst ?_
              exact ev_ret rfl (by decide) (by decide) ⟨_, rfl, by omega, by omega, g15390, k15390⟩
        · refine ev_iload_n rfl ?_
          refine ev_aload_n rfl ?_
          refine ev_in (d := 0) (a := 0) (b := 0) (cd' := c157_0) (m := 1) (L0 := [(2, 1)]) (jcall_v (A := []) (S' := [(0, v15387)]) (r := 1) rfl (g.lt ad1) (g.tg ad1) (Nat.le_of_ble_eq_true rfl)) (by decide) ml157 pp157 (Nat.le_of_ble_eq_true rfl) rfl (by decide) (by decide) ?_
          refine ev_iconst ?_
          refine ev_iconst ?_
          refine ev_aload_n rfl ?_
          obtain ⟨v15393, ev15393, lv15393, uv15393⟩ := g.rd ad1 (show 0 < 8 by decide) rf1_0
          refine g_getv (r := 1) (v := v15393) g ad1 (by decide) ft10_0 ev15393 ?_
          refine ev_imul (r := (2 * v15393)) (by unfold w32; omega) ?_
          refine g_ishlB (a' := 1) (a := 1) (b := 8) (hi := 256) (by omega) (by omega) (by omega) (by omega) (by decide) (by decide) (fun v15394 ev15394 lv15394 uv15394 => ?_)
          refine ev_ret rfl (by decide) (by decide) ?_
          show jEv _ _ _ _ _ _ _ (_, [(2, 1), (0, v15387)], [(0, v15394), (0, v15387)], _, _, _)
          refine ev_icmplt f161_16 (fun c15395 => ?_) (fun c15395 => ?_)
          · refine ev_aload_n rfl ?_
            refine g_getp (r := 1) (c := 6) g ad1 (by decide) (by decide) rf1_7 ft10_7 ?_
            refine ev_iload_n rfl ?_
            refine g_lald g ad6 rt6 (by omega) (by omega) (fun v15396 ev15396 lv15396 uv15396 => ?_)
            refine ev_ret rfl (by decide) (by decide) ?_
            show jEv _ _ _ _ _ _ _ (_, [(2, (r0 : Int)), (2, 1), (0, v15377)], [(1, v15396)], _, _, _)
            refine ev_ret rfl (by decide) (by decide) ?_
            show jEv _ _ _ _ _ _ _ (_, [(2, (r0 : Int)), (2, 1), (0, a2), (0, a3), (0, a4), (0, a5), (0, v15377), (0, v15379), (0, 99), (0, v15379), (9, 0), (9, 0), (9, 0)], [(1, v15396), (1, 100)], _, _, _)
            refine g_lmulG (fun v15397 ev15397 lv15397 uv15397 => ?_)
            refine ev_goto f60_126 ?_
            refine ev_lstore (L' := [(2, (r0 : Int)), (2, 1), (0, a2), (0, a3), (0, a4), (0, a5), (0, v15377), (0, v15379), (0, 99), (0, v15379), (1, v15397), (9, 0), (9, 0)]) (Nat.le_of_ble_eq_true rfl) rfl ?_
            refine ev_iload rfl ?_
            refine ev_iconst ?_
            refine ev_icmplt f60_149 (fun c15398 => ?_) (fun c15398 => ?_)
            · refine ev_iconst ?_
              exact ev_ret rfl (by decide) (by decide) ⟨_, rfl, by omega, by omega, g, k0⟩
            · refine ev_aload_n rfl ?_
              refine ev_iload rfl ?_
              refine ev_iload rfl ?_
              refine ev_i2l ?_
              refine ev_lload rfl ?_
              refine g_lmulG (fun v15399 ev15399 lv15399 uv15399 => ?_)
              refine ev_call (jcall_v (A := [(1, v15399), (0, v15377)]) (S' := []) (r := r0) rfl (g.qlt q0) (g.qtg q0) (Nat.le_of_ble_eq_true rfl)) (jOk_le (by decide) (s61 g q0 (by omega) (by omega) (by omega) (by omega))) (by decide) (by decide) (fun w15400 h15400 q15400 => ?_)
              obtain ⟨v15401, rfl, lv15401, uv15401, g15400, kk15400⟩ := q15400
              have k15400 := k0.tr kk15400 (by decide)
              show jEv _ _ _ _ _ _ _ (_, [(2, (r0 : Int)), (2, 1), (0, a2), (0, a3), (0, a4), (0, a5), (0, v15377), (0, v15379), (0, 99), (0, v15379), (1, v15397), (9, 0), (9, 0)], [(0, v15401)], _, _, _)
              refine ev_ifne f60_151 (fun c15402 => ?_) (fun c15402 => ?_)
              · refine ev_iconst ?_
                refine ev_istore (L' := [(2, (r0 : Int)), (2, 1), (0, a2), (0, a3), (0, a4), (0, a5), (0, v15377), (0, v15379), (0, 99), (0, v15379), (1, v15397), (9, 0), (0, 1)]) (Nat.le_of_ble_eq_true rfl) rfl ?_
                exact (s60_l q0 la2 ua2 la3 ua3 la4 ua4 la5 ua5 80) _ _ _ _ _ _ _ g15400 k15400 (by omega) (by omega) (by omega) (by omega) (by omega) (by omega) (by omega) (by omega) (by omega) (by omega) (by omega) (by omega) (by omega) (by omega) (by omega) (by omega) (by omega) (by omega) (by omega) (by omega) (by omega) (by omega)
              · refine ev_iconst ?_
                exact ev_ret rfl (by decide) (by decide) ⟨_, rfl, by omega, by omega, g15400, k15400⟩
          · refine ev_lconst ?_
            refine ev_goto f161_22 ?_
            refine ev_ret rfl (by decide) (by decide) ?_
            show jEv _ _ _ _ _ _ _ (_, [(2, (r0 : Int)), (2, 1), (0, v15377)], [(1, 0)], _, _, _)
            refine ev_ret rfl (by decide) (by decide) ?_
            show jEv _ _ _ _ _ _ _ (_, [(2, (r0 : Int)), (2, 1), (0, a2), (0, a3), (0, a4), (0, a5), (0, v15377), (0, v15379), (0, 99), (0, v15379), (9, 0), (9, 0), (9, 0)], [(1, 0), (1, 100)], _, _, _)
            refine ev_lmul (r := 0) (by decide) ?_
            refine ev_goto f60_126 ?_
            refine ev_lstore (L' := [(2, (r0 : Int)), (2, 1), (0, a2), (0, a3), (0, a4), (0, a5), (0, v15377), (0, v15379), (0, 99), (0, v15379), (1, 0), (9, 0), (9, 0)]) (Nat.le_of_ble_eq_true rfl) rfl ?_
            refine ev_iload rfl ?_
            refine ev_iconst ?_
            refine ev_icmplt f60_149 (fun c15403 => ?_) (fun c15403 => ?_)
            · refine ev_iconst ?_
              exact ev_ret rfl (by decide) (by decide) ⟨_, rfl, by omega, by omega, g, k0⟩
            · refine ev_aload_n rfl ?_
              refine ev_iload rfl ?_
              refine ev_iload rfl ?_
              refine ev_i2l ?_
              refine ev_lload rfl ?_
              refine ev_lmul (r := 0) (by unfold w64; omega) ?_
              refine ev_call (jcall_v (A := [(1, 0), (0, v15377)]) (S' := []) (r := r0) rfl (g.qlt q0) (g.qtg q0) (Nat.le_of_ble_eq_true rfl)) (jOk_le (by decide) (s61 g q0 (by omega) (by omega) (by omega) (by omega))) (by decide) (by decide) (fun w15404 h15404 q15404 => ?_)
              obtain ⟨v15405, rfl, lv15405, uv15405, g15404, kk15404⟩ := q15404
              have k15404 := k0.tr kk15404 (by decide)
              show jEv _ _ _ _ _ _ _ (_, [(2, (r0 : Int)), (2, 1), (0, a2), (0, a3), (0, a4), (0, a5), (0, v15377), (0, v15379), (0, 99), (0, v15379), (1, 0), (9, 0), (9, 0)], [(0, v15405)], _, _, _)
              refine ev_ifne f60_151 (fun c15406 => ?_) (fun c15406 => ?_)
              · refine ev_iconst ?_
                refine ev_istore (L' := [(2, (r0 : Int)), (2, 1), (0, a2), (0, a3), (0, a4), (0, a5), (0, v15377), (0, v15379), (0, 99), (0, v15379), (1, 0), (9, 0), (0, 1)]) (Nat.le_of_ble_eq_true rfl) rfl ?_
                exact (s60_l q0 la2 ua2 la3 ua3 la4 ua4 la5 ua5 80) _ _ _ _ _ _ _ g15404 k15404 (by omega) (by omega) (by omega) (by omega) (by omega) (by omega) (by omega) (by omega) (by omega) (by omega) (by omega) (by omega) (by omega) (by omega) (by omega) (by omega) (by omega) (by omega) (by omega) (by omega) (by omega) (by omega)
              · refine ev_iconst ?_
                exact ev_ret rfl (by decide) (by decide) ⟨_, rfl, by omega, by omega, g15404, k15404⟩
      · refine ev_iload_n rfl ?_
        refine ev_goto f381_10 ?_
        refine ev_ret rfl (by decide) (by decide) ?_
        show jEv _ _ _ _ _ _ _ (_, [(2, (r0 : Int)), (2, 1), (0, a2), (0, a3), (0, a4), (0, a5), (0, v15377), (0, v15379), (0, 99), (9, 0), (9, 0), (9, 0), (9, 0)], [(0, a5)], _, _, _)
        refine ev_istore (L' := [(2, (r0 : Int)), (2, 1), (0, a2), (0, a3), (0, a4), (0, a5), (0, v15377), (0, v15379), (0, 99), (0, a5), (9, 0), (9, 0), (9, 0)]) (Nat.le_of_ble_eq_true rfl) rfl ?_
        refine ev_iload_n rfl ?_
        refine ev_iconst ?_
        refine ev_icmpne f60_86 (fun c15407 => ?_) (fun c15407 => absurd c15407 (by omega))
        refine ev_iconst ?_
        refine ev_iload rfl ?_
        refine ev_iconst ?_
        refine ev_icmpne f60_97 (fun c15408 => ?_) (fun c15408 => absurd c15408 (by omega))
        refine ev_iconst ?_
        refine ev_icmpne f60_115 (fun c15409 => absurd c15409 (by omega)) (fun c15409 => ?_)
        refine ev_ldc2_w ?_
        refine ev_aload_n rfl ?_
        refine ev_aload_n rfl ?_
        refine ev_iload rfl ?_
        refine ev_in (d := 2) (a := 0) (b := 0) (cd' := c58_0) (m := 3) (L0 := [(2, (r0 : Int)), (2, 1), (0, v15377)]) (jcall_v (A := [(0, v15377), (2, 1)]) (S' := [(1, 100)]) (r := r0) rfl (g.qlt q0) (g.qtg q0) (Nat.le_of_ble_eq_true rfl)) (by decide) ml58 pp58 (Nat.le_of_ble_eq_true rfl) rfl (by decide) (by decide) ?_
        refine ev_aload_n rfl ?_
        refine ev_aload_n rfl ?_
        refine g_qgetp g q0 (c := 8) (by decide) (by decide) ft4_8 ?_
        refine ev_iload_n rfl ?_
        refine g_qiald g q0 (c := 8) (by decide) (by decide) (by decide) (by omega) (by show v15377 < m0; omega) rfl (fun v15410 ev15410 lv15410 uv15410 => ?_)
        refine ev_in (d := 1) (a := 0) (b := 0) (cd' := c161_0) (m := 2) (L0 := [(2, 1), (0, v15410)]) (jcall_v (A := [(0, v15410)]) (S' := []) (r := 1) rfl (g.lt ad1) (g.tg ad1) (Nat.le_of_ble_eq_true rfl)) (by decide) ml161 pp161 (Nat.le_of_ble_eq_true rfl) rfl (by decide) (by decide) ?_
        refine ev_iload_n rfl ?_
        refine ev_iflt f161_12 (fun c15411 => ?_) (fun c15411 => ?_)
        · refine ev_lconst ?_
          refine ev_goto f161_22 ?_
          refine ev_ret rfl (by decide) (by decide) ?_
          show jEv _ _ _ _ _ _ _ (_, [(2, (r0 : Int)), (2, 1), (0, v15377)], [(1, 0)], _, _, _)
          refine ev_ret rfl (by decide) (by decide) ?_
          show jEv _ _ _ _ _ _ _ (_, [(2, (r0 : Int)), (2, 1), (0, a2), (0, a3), (0, a4), (0, a5), (0, v15377), (0, v15379), (0, 99), (0, a5), (9, 0), (9, 0), (9, 0)], [(1, 0), (1, 100)], _, _, _)
          refine ev_lmul (r := 0) (by decide) ?_
          refine ev_goto f60_126 ?_
          refine ev_lstore (L' := [(2, (r0 : Int)), (2, 1), (0, a2), (0, a3), (0, a4), (0, a5), (0, v15377), (0, v15379), (0, 99), (0, a5), (1, 0), (9, 0), (9, 0)]) (Nat.le_of_ble_eq_true rfl) rfl ?_
          refine ev_iload rfl ?_
          refine ev_iconst ?_
          refine ev_icmplt f60_149 (fun c15412 => ?_) (fun c15412 => ?_)
          · refine ev_iconst ?_
            exact ev_ret rfl (by decide) (by decide) ⟨_, rfl, by omega, by omega, g, k0⟩
          · refine ev_aload_n rfl ?_
            refine ev_iload rfl ?_
            refine ev_iload rfl ?_
            refine ev_i2l ?_
            refine ev_lload rfl ?_
            refine ev_lmul (r := 0) (by unfold w64; omega) ?_
            refine ev_call (jcall_v (A := [(1, 0), (0, v15377)]) (S' := []) (r := r0) rfl (g.qlt q0) (g.qtg q0) (Nat.le_of_ble_eq_true rfl)) (jOk_le (by decide) (s61 g q0 (by omega) (by omega) (by omega) (by omega))) (by decide) (by decide) (fun w15413 h15413 q15413 => ?_)
            obtain ⟨v15414, rfl, lv15414, uv15414, g15413, kk15413⟩ := q15413
            have k15413 := k0.tr kk15413 (by decide)
            show jEv _ _ _ _ _ _ _ (_, [(2, (r0 : Int)), (2, 1), (0, a2), (0, a3), (0, a4), (0, a5), (0, v15377), (0, v15379), (0, 99), (0, a5), (1, 0), (9, 0), (9, 0)], [(0, v15414)], _, _, _)
            refine ev_ifne f60_151 (fun c15415 => ?_) (fun c15415 => ?_)
            · refine ev_iconst ?_
              refine ev_istore (L' := [(2, (r0 : Int)), (2, 1), (0, a2), (0, a3), (0, a4), (0, a5), (0, v15377), (0, v15379), (0, 99), (0, a5), (1, 0), (9, 0), (0, 1)]) (Nat.le_of_ble_eq_true rfl) rfl ?_
              exact (s60_l q0 la2 ua2 la3 ua3 la4 ua4 la5 ua5 80) _ _ _ _ _ _ _ g15413 k15413 (by omega) (by omega) (by omega) (by omega) (by omega) (by omega) (by omega) (by omega) (by omega) (by omega) (by omega) (by omega) (by omega) (by omega) (by omega) (by omega) (by omega) (by omega) (by omega) (by omega) (by omega) (by omega)
            · refine ev_iconst ?_
              exact ev_ret rfl (by decide) (by decide) ⟨_, rfl, by omega, by omega, g15413, k15413⟩
        · refine ev_iload_n rfl ?_
          refine ev_aload_n rfl ?_
          refine ev_in (d := 0) (a := 0) (b := 0) (cd' := c157_0) (m := 1) (L0 := [(2, 1)]) (jcall_v (A := []) (S' := [(0, v15410)]) (r := 1) rfl (g.lt ad1) (g.tg ad1) (Nat.le_of_ble_eq_true rfl)) (by decide) ml157 pp157 (Nat.le_of_ble_eq_true rfl) rfl (by decide) (by decide) ?_
          refine ev_iconst ?_
          refine ev_iconst ?_
          refine ev_aload_n rfl ?_
          obtain ⟨v15416, ev15416, lv15416, uv15416⟩ := g.rd ad1 (show 0 < 8 by decide) rf1_0
          refine g_getv (r := 1) (v := v15416) g ad1 (by decide) ft10_0 ev15416 ?_
          refine ev_imul (r := (2 * v15416)) (by unfold w32; omega) ?_
          refine g_ishlB (a' := 1) (a := 1) (b := 8) (hi := 256) (by omega) (by omega) (by omega) (by omega) (by decide) (by decide) (fun v15417 ev15417 lv15417 uv15417 => ?_)
          refine ev_ret rfl (by decide) (by decide) ?_
          show jEv _ _ _ _ _ _ _ (_, [(2, 1), (0, v15410)], [(0, v15417), (0, v15410)], _, _, _)
          refine ev_icmplt f161_16 (fun c15418 => ?_) (fun c15418 => ?_)
          · refine ev_aload_n rfl ?_
            refine g_getp (r := 1) (c := 6) g ad1 (by decide) (by decide) rf1_7 ft10_7 ?_
            refine ev_iload_n rfl ?_
            refine g_lald g ad6 rt6 (by omega) (by omega) (fun v15419 ev15419 lv15419 uv15419 => ?_)
            refine ev_ret rfl (by decide) (by decide) ?_
            show jEv _ _ _ _ _ _ _ (_, [(2, (r0 : Int)), (2, 1), (0, v15377)], [(1, v15419)], _, _, _)
            refine ev_ret rfl (by decide) (by decide) ?_
            show jEv _ _ _ _ _ _ _ (_, [(2, (r0 : Int)), (2, 1), (0, a2), (0, a3), (0, a4), (0, a5), (0, v15377), (0, v15379), (0, 99), (0, a5), (9, 0), (9, 0), (9, 0)], [(1, v15419), (1, 100)], _, _, _)
            refine g_lmulG (fun v15420 ev15420 lv15420 uv15420 => ?_)
            refine ev_goto f60_126 ?_
            refine ev_lstore (L' := [(2, (r0 : Int)), (2, 1), (0, a2), (0, a3), (0, a4), (0, a5), (0, v15377), (0, v15379), (0, 99), (0, a5), (1, v15420), (9, 0), (9, 0)]) (Nat.le_of_ble_eq_true rfl) rfl ?_
            refine ev_iload rfl ?_
            refine ev_iconst ?_
            refine ev_icmplt f60_149 (fun c15421 => ?_) (fun c15421 => ?_)
            · refine ev_iconst ?_
              exact ev_ret rfl (by decide) (by decide) ⟨_, rfl, by omega, by omega, g, k0⟩
            · refine ev_aload_n rfl ?_
              refine ev_iload rfl ?_
              refine ev_iload rfl ?_
              refine ev_i2l ?_
              refine ev_lload rfl ?_
              refine g_lmulG (fun v15422 ev15422 lv15422 uv15422 => ?_)
              refine ev_call (jcall_v (A := [(1, v15422), (0, v15377)]) (S' := []) (r := r0) rfl (g.qlt q0) (g.qtg q0) (Nat.le_of_ble_eq_true rfl)) (jOk_le (by decide) (s61 g q0 (by omega) (by omega) (by omega) (by omega))) (by decide) (by decide) (fun w15423 h15423 q15423 => ?_)
              obtain ⟨v15424, rfl, lv15424, uv15424, g15423, kk15423⟩ := q15423
              have k15423 := k0.tr kk15423 (by decide)
              show jEv _ _ _ _ _ _ _ (_, [(2, (r0 : Int)), (2, 1), (0, a2), (0, a3), (0, a4), (0, a5), (0, v15377), (0, v15379), (0, 99), (0, a5), (1, v15420), (9, 0), (9, 0)], [(0, v15424)], _, _, _)
              refine ev_ifne f60_151 (fun c15425 => ?_) (fun c15425 => ?_)
              · refine ev_iconst ?_
                refine ev_istore (L' := [(2, (r0 : Int)), (2, 1), (0, a2), (0, a3), (0, a4), (0, a5), (0, v15377), (0, v15379), (0, 99), (0, a5), (1, v15420), (9, 0), (0, 1)]) (Nat.le_of_ble_eq_true rfl) rfl ?_
                exact (s60_l q0 la2 ua2 la3 ua3 la4 ua4 la5 ua5 80) _ _ _ _ _ _ _ g15423 k15423 (by omega) (by omega) (by omega) (by omega) (by omega) (by omega) (by omega) (by omega) (by omega) (by omega) (by omega) (by omega) (by omega) (by omega) (by omega) (by omega) (by omega) (by omega) (by omega) (by omega) (by omega) (by omega)
              · refine ev_iconst ?_
                exact ev_ret rfl (by decide) (by decide) ⟨_, rfl, by omega, by omega, g15423, k15423⟩
          · refine ev_lconst ?_
            refine ev_goto f161_22 ?_
            refine ev_ret rfl (by decide) (by decide) ?_
            show jEv _ _ _ _ _ _ _ (_, [(2, (r0 : Int)), (2, 1), (0, v15377)], [(1, 0)], _, _, _)
            refine ev_ret rfl (by decide) (by decide) ?_
            show jEv _ _ _ _ _ _ _ (_, [(2, (r0 : Int)), (2, 1), (0, a2), (0, a3), (0, a4), (0, a5), (0, v15377), (0, v15379), (0, 99), (0, a5), (9, 0), (9, 0), (9, 0)], [(1, 0), (1, 100)], _, _, _)
            refine ev_lmul (r := 0) (by decide) ?_
            refine ev_goto f60_126 ?_
            refine ev_lstore (L' := [(2, (r0 : Int)), (2, 1), (0, a2), (0, a3), (0, a4), (0, a5), (0, v15377), (0, v15379), (0, 99), (0, a5), (1, 0), (9, 0), (9, 0)]) (Nat.le_of_ble_eq_true rfl) rfl ?_
            refine ev_iload rfl ?_
            refine ev_iconst ?_
            refine ev_icmplt f60_149 (fun c15426 => ?_) (fun c15426 => ?_)
            · refine ev_iconst ?_
              exact ev_ret rfl (by decide) (by decide) ⟨_, rfl, by omega, by omega, g, k0⟩
            · refine ev_aload_n rfl ?_
              refine ev_iload rfl ?_
              refine ev_iload rfl ?_
              refine ev_i2l ?_
              refine ev_lload rfl ?_
              refine ev_lmul (r := 0) (by unfold w64; omega) ?_
              refine ev_call (jcall_v (A := [(1, 0), (0, v15377)]) (S' := []) (r := r0) rfl (g.qlt q0) (g.qtg q0) (Nat.le_of_ble_eq_true rfl)) (jOk_le (by decide) (s61 g q0 (by omega) (by omega) (by omega) (by omega))) (by decide) (by decide) (fun w15427 h15427 q15427 => ?_)
              obtain ⟨v15428, rfl, lv15428, uv15428, g15427, kk15427⟩ := q15427
              have k15427 := k0.tr kk15427 (by decide)
              show jEv _ _ _ _ _ _ _ (_, [(2, (r0 : Int)), (2, 1), (0, a2), (0, a3), (0, a4), (0, a5), (0, v15377), (0, v15379), (0, 99), (0, a5), (1, 0), (9, 0), (9, 0)], [(0, v15428)], _, _, _)
              refine ev_ifne f60_151 (fun c15429 => ?_) (fun c15429 => ?_)
              · refine ev_iconst ?_
                refine ev_istore (L' := [(2, (r0 : Int)), (2, 1), (0, a2), (0, a3), (0, a4), (0, a5), (0, v15377), (0, v15379), (0, 99), (0, a5), (1, 0), (9, 0), (0, 1)]) (Nat.le_of_ble_eq_true rfl) rfl ?_
                exact (s60_l q0 la2 ua2 la3 ua3 la4 ua4 la5 ua5 80) _ _ _ _ _ _ _ g15427 k15427 (by omega) (by omega) (by omega) (by omega) (by omega) (by omega) (by omega) (by omega) (by omega) (by omega) (by omega) (by omega) (by omega) (by omega) (by omega) (by omega) (by omega) (by omega) (by omega) (by omega) (by omega) (by omega)
              · refine ev_iconst ?_
                exact ev_ret rfl (by decide) (by decide) ⟨_, rfl, by omega, by omega, g15427, k15427⟩
    · refine ev_iload rfl ?_
      refine ev_iload rfl ?_
      refine g_isubG (fun v15430 ev15430 lv15430 uv15430 => ?_)
      refine ev_goto f60_72 ?_
      refine ev_in (d := 2) (a := 0) (b := 0) (cd' := c381_0) (m := 2) (L0 := [(0, a5), (0, v15430)]) (jcall_s (A := [(0, v15430), (0, a5)]) (S' := []) (by decide) rfl (Nat.le_of_ble_eq_true rfl)) (by decide) ml381 pp381 (Nat.le_of_ble_eq_true rfl) rfl (by decide) (by decide) ?_
      refine ev_iload_n rfl ?_
      refine ev_iload_n rfl ?_
      refine ev_icmpgt f381_9 (fun c15431 => ?_) (fun c15431 => ?_)
      · refine ev_iload_n rfl ?_
        refine ev_ret rfl (by decide) (by decide) ?_
        show jEv _ _ _ _ _ _ _ (_, [(2, (r0 : Int)), (2, 1), (0, a2), (0, a3), (0, a4), (0, a5), (0, v15377), (0, v15379), (0, 99), (9, 0), (9, 0), (9, 0), (9, 0)], [(0, v15430)], _, _, _)
        refine ev_istore (L' := [(2, (r0 : Int)), (2, 1), (0, a2), (0, a3), (0, a4), (0, a5), (0, v15377), (0, v15379), (0, 99), (0, v15430), (9, 0), (9, 0), (9, 0)]) (Nat.le_of_ble_eq_true rfl) rfl ?_
        refine ev_iload_n rfl ?_
        refine ev_iconst ?_
        refine ev_icmpne f60_86 (fun c15432 => ?_) (fun c15432 => absurd c15432 (by omega))
        refine ev_iconst ?_
        refine ev_iload rfl ?_
        refine ev_iconst ?_
        refine ev_icmpne f60_97 (fun c15433 => absurd c15433 (by omega)) (fun c15433 => ?_)
        refine ev_iconst ?_
        refine ev_goto f60_98 ?_
        refine ev_icmpne f60_115 (fun c15434 => ?_) (fun c15434 => absurd c15434 (by omega))
        refine ev_ldc2_w ?_
        refine ev_aload_n rfl ?_
        refine ev_aload_n rfl ?_
        refine ev_iload rfl ?_
        refine ev_in (d := 2) (a := 0) (b := 0) (cd' := c58_0) (m := 3) (L0 := [(2, (r0 : Int)), (2, 1), (0, v15377)]) (jcall_v (A := [(0, v15377), (2, 1)]) (S' := [(1, (-100))]) (r := r0) rfl (g.qlt q0) (g.qtg q0) (Nat.le_of_ble_eq_true rfl)) (by decide) ml58 pp58 (Nat.le_of_ble_eq_true rfl) rfl (by decide) (by decide) ?_
        refine ev_aload_n rfl ?_
        refine ev_aload_n rfl ?_
        refine g_qgetp g q0 (c := 8) (by decide) (by decide) ft4_8 ?_
        refine ev_iload_n rfl ?_
        refine g_qiald g q0 (c := 8) (by decide) (by decide) (by decide) (by omega) (by show v15377 < m0; omega) rfl (fun v15435 ev15435 lv15435 uv15435 => ?_)
        refine ev_in (d := 1) (a := 0) (b := 0) (cd' := c161_0) (m := 2) (L0 := [(2, 1), (0, v15435)]) (jcall_v (A := [(0, v15435)]) (S' := []) (r := 1) rfl (g.lt ad1) (g.tg ad1) (Nat.le_of_ble_eq_true rfl)) (by decide) ml161 pp161 (Nat.le_of_ble_eq_true rfl) rfl (by decide) (by decide) ?_
        refine ev_iload_n rfl ?_
        refine ev_iflt f161_12 (fun c15436 => ?_) (fun c15436 => ?_)
        · refine ev_lconst ?_
          refine ev_goto f161_22 ?_
          refine ev_ret rfl (by decide) (by decide) ?_
          show jEv _ _ _ _ _ _ _ (_, [(2, (r0 : Int)), (2, 1), (0, v15377)], [(1, 0)], _, _, _)
          refine ev_ret rfl (by decide) (by decide) ?_
          show jEv _ _ _ _ _ _ _ (_, [(2, (r0 : Int)), (2, 1), (0, a2), (0, a3), (0, a4), (0, a5), (0, v15377), (0, v15379), (0, 99), (0, v15430), (9, 0), (9, 0), (9, 0)], [(1, 0), (1, (-100))], _, _, _)
          refine ev_lmul (r := 0) (by decide) ?_
          refine ev_lstore (L' := [(2, (r0 : Int)), (2, 1), (0, a2), (0, a3), (0, a4), (0, a5), (0, v15377), (0, v15379), (0, 99), (0, v15430), (1, 0), (9, 0), (9, 0)]) (Nat.le_of_ble_eq_true rfl) rfl ?_
          refine ev_iload rfl ?_
          refine ev_iconst ?_
          refine ev_icmplt f60_149 (fun c15437 => ?_) (fun c15437 => ?_)
          · refine ev_iconst ?_
            exact ev_ret rfl (by decide) (by decide) ⟨_, rfl, by omega, by omega, g, k0⟩
          · refine ev_aload_n rfl ?_
            refine ev_iload rfl ?_
            refine ev_iload rfl ?_
            refine ev_i2l ?_
            refine ev_lload rfl ?_
            refine ev_lmul (r := 0) (by unfold w64; omega) ?_
            refine ev_call (jcall_v (A := [(1, 0), (0, v15377)]) (S' := []) (r := r0) rfl (g.qlt q0) (g.qtg q0) (Nat.le_of_ble_eq_true rfl)) (jOk_le (by decide) (s61 g q0 (by omega) (by omega) (by omega) (by omega))) (by decide) (by decide) (fun w15438 h15438 q15438 => ?_)
            obtain ⟨v15439, rfl, lv15439, uv15439, g15438, kk15438⟩ := q15438
            have k15438 := k0.tr kk15438 (by decide)
            show jEv _ _ _ _ _ _ _ (_, [(2, (r0 : Int)), (2, 1), (0, a2), (0, a3), (0, a4), (0, a5), (0, v15377), (0, v15379), (0, 99), (0, v15430), (1, 0), (9, 0), (9, 0)], [(0, v15439)], _, _, _)
            refine ev_ifne f60_151 (fun c15440 => ?_) (fun c15440 => ?_)
            · refine ev_iconst ?_
              refine ev_istore (L' := [(2, (r0 : Int)), (2, 1), (0, a2), (0, a3), (0, a4), (0, a5), (0, v15377), (0, v15379), (0, 99), (0, v15430), (1, 0), (9, 0), (0, 1)]) (Nat.le_of_ble_eq_true rfl) rfl ?_
              exact (s60_l q0 la2 ua2 la3 ua3 la4 ua4 la5 ua5 80) _ _ _ _ _ _ _ g15438 k15438 (by omega) (by omega) (by omega) (by omega) (by omega) (by omega) (by omega) (by omega) (by omega) (by omega) (by omega) (by omega) (by omega) (by omega) (by omega) (by omega) (by omega) (by omega) (by omega) (by omega) (by omega) (by omega)
            · refine ev_iconst ?_
              exact ev_ret rfl (by decide) (by decide) ⟨_, rfl, by omega, by omega, g15438, k15438⟩
        · refine ev_iload_n rfl ?_
          refine ev_aload_n rfl ?_
          refine ev_in (d := 0) (a := 0) (b := 0) (cd' := c157_0) (m := 1) (L0 := [(2, 1)]) (jcall_v (A := []) (S' := [(0, v15435)]) (r := 1) rfl (g.lt ad1) (g.tg ad1) (Nat.le_of_ble_eq_true rfl)) (by decide) ml157 pp157 (Nat.le_of_ble_eq_true rfl) rfl (by decide) (by decide) ?_
          refine ev_iconst ?_
          refine ev_iconst ?_
          refine ev_aload_n rfl ?_
          obtain ⟨v15441, ev15441, lv15441, uv15441⟩ := g.rd ad1 (show 0 < 8 by decide) rf1_0
          refine g_getv (r := 1) (v := v15441) g ad1 (by decide) ft10_0 ev15441 ?_
          refine ev_imul (r := (2 * v15441)) (by unfold w32; omega) ?_
          refine g_ishlB (a' := 1) (a := 1) (b := 8) (hi := 256) (by omega) (by omega) (by omega) (by omega) (by decide) (by decide) (fun v15442 ev15442 lv15442 uv15442 => ?_)
          refine ev_ret rfl (by decide) (by decide) ?_
          show jEv _ _ _ _ _ _ _ (_, [(2, 1), (0, v15435)], [(0, v15442), (0, v15435)], _, _, _)
          refine ev_icmplt f161_16 (fun c15443 => ?_) (fun c15443 => ?_)
          · refine ev_aload_n rfl ?_
            refine g_getp (r := 1) (c := 6) g ad1 (by decide) (by decide) rf1_7 ft10_7 ?_
            refine ev_iload_n rfl ?_
            refine g_lald g ad6 rt6 (by omega) (by omega) (fun v15444 ev15444 lv15444 uv15444 => ?_)
            refine ev_ret rfl (by decide) (by decide) ?_
            show jEv _ _ _ _ _ _ _ (_, [(2, (r0 : Int)), (2, 1), (0, v15377)], [(1, v15444)], _, _, _)
            refine ev_ret rfl (by decide) (by decide) ?_
            show jEv _ _ _ _ _ _ _ (_, [(2, (r0 : Int)), (2, 1), (0, a2), (0, a3), (0, a4), (0, a5), (0, v15377), (0, v15379), (0, 99), (0, v15430), (9, 0), (9, 0), (9, 0)], [(1, v15444), (1, (-100))], _, _, _)
            refine g_lmulG (fun v15445 ev15445 lv15445 uv15445 => ?_)
            refine ev_lstore (L' := [(2, (r0 : Int)), (2, 1), (0, a2), (0, a3), (0, a4), (0, a5), (0, v15377), (0, v15379), (0, 99), (0, v15430), (1, v15445), (9, 0), (9, 0)]) (Nat.le_of_ble_eq_true rfl) rfl ?_
            refine ev_iload rfl ?_
            refine ev_iconst ?_
            refine ev_icmplt f60_149 (fun c15446 => ?_) (fun c15446 => ?_)
            · refine ev_iconst ?_
              exact ev_ret rfl (by decide) (by decide) ⟨_, rfl, by omega, by omega, g, k0⟩
            · refine ev_aload_n rfl ?_
              refine ev_iload rfl ?_
              refine ev_iload rfl ?_
              refine ev_i2l ?_
              refine ev_lload rfl ?_
              refine g_lmulG (fun v15447 ev15447 lv15447 uv15447 => ?_)
              refine ev_call (jcall_v (A := [(1, v15447), (0, v15377)]) (S' := []) (r := r0) rfl (g.qlt q0) (g.qtg q0) (Nat.le_of_ble_eq_true rfl)) (jOk_le (by decide) (s61 g q0 (by omega) (by omega) (by omega) (by omega))) (by decide) (by decide) (fun w15448 h15448 q15448 => ?_)
              obtain ⟨v15449, rfl, lv15449, uv15449, g15448, kk15448⟩ := q15448
              have k15448 := k0.tr kk15448 (by decide)
              show jEv _ _ _ _ _ _ _ (_, [(2, (r0 : Int)), (2, 1), (0, a2), (0, a3), (0, a4), (0, a5), (0, v15377), (0, v15379), (0, 99), (0, v15430), (1, v15445), (9, 0), (9, 0)], [(0, v15449)], _, _, _)
              refine ev_ifne f60_151 (fun c15450 => ?_) (fun c15450 => ?_)
              · refine ev_iconst ?_
                refine ev_istore (L' := [(2, (r0 : Int)), (2, 1), (0, a2), (0, a3), (0, a4), (0, a5), (0, v15377), (0, v15379), (0, 99), (0, v15430), (1, v15445), (9, 0), (0, 1)]) (Nat.le_of_ble_eq_true rfl) rfl ?_
                exact (s60_l q0 la2 ua2 la3 ua3 la4 ua4 la5 ua5 80) _ _ _ _ _ _ _ g15448 k15448 (by omega) (by omega) (by omega) (by omega) (by omega) (by omega) (by omega) (by omega) (by omega) (by omega) (by omega) (by omega) (by omega) (by omega) (by omega) (by omega) (by omega) (by omega) (by omega) (by omega) (by omega) (by omega)
              · refine ev_iconst ?_
                exact ev_ret rfl (by decide) (by decide) ⟨_, rfl, by omega, by omega, g15448, k15448⟩
          · refine ev_lconst ?_
            refine ev_goto f161_22 ?_
            refine ev_ret rfl (by decide) (by decide) ?_
            show jEv _ _ _ _ _ _ _ (_, [(2, (r0 : Int)), (2, 1), (0, v15377)], [(1, 0)], _, _, _)
            refine ev_ret rfl (by decide) (by decide) ?_
            show jEv _ _ _ _ _ _ _ (_, [(2, (r0 : Int)), (2, 1), (0, a2), (0, a3), (0, a4), (0, a5), (0, v15377), (0, v15379), (0, 99), (0, v15430), (9, 0), (9, 0), (9, 0)], [(1, 0), (1, (-100))], _, _, _)
            refine ev_lmul (r := 0) (by decide) ?_
            refine ev_lstore (L' := [(2, (r0 : Int)), (2, 1), (0, a2), (0, a3), (0, a4), (0, a5), (0, v15377), (0, v15379), (0, 99), (0, v15430), (1, 0), (9, 0), (9, 0)]) (Nat.le_of_ble_eq_true rfl) rfl ?_
            refine ev_iload rfl ?_
            refine ev_iconst ?_
            refine ev_icmplt f60_149 (fun c15451 => ?_) (fun c15451 => ?_)
            · refine ev_iconst ?_
              exact ev_ret rfl (by decide) (by decide) ⟨_, rfl, by omega, by omega, g, k0⟩
            · refine ev_aload_n rfl ?_
              refine ev_iload rfl ?_
              refine ev_iload rfl ?_
              refine ev_i2l ?_
              refine ev_lload rfl ?_
              refine ev_lmul (r := 0) (by unfold w64; omega) ?_
              refine ev_call (jcall_v (A := [(1, 0), (0, v15377)]) (S' := []) (r := r0) rfl (g.qlt q0) (g.qtg q0) (Nat.le_of_ble_eq_true rfl)) (jOk_le (by decide) (s61 g q0 (by omega) (by omega) (by omega) (by omega))) (by decide) (by decide) (fun w15452 h15452 q15452 => ?_)
              obtain ⟨v15453, rfl, lv15453, uv15453, g15452, kk15452⟩ := q15452
              have k15452 := k0.tr kk15452 (by decide)
              show jEv _ _ _ _ _ _ _ (_, [(2, (r0 : Int)), (2, 1), (0, a2), (0, a3), (0, a4), (0, a5), (0, v15377), (0, v15379), (0, 99), (0, v15430), (1, 0), (9, 0), (9, 0)], [(0, v15453)], _, _, _)
              refine ev_ifne f60_151 (fun c15454 => ?_) (fun c15454 => ?_)
              · refine ev_iconst ?_
                refine ev_istore (L' := [(2, (r0 : Int)), (2, 1), (0, a2), (0, a3), (0, a4), (0, a5), (0, v15377), (0, v15379), (0, 99), (0, v15430), (1, 0), (9, 0), (0, 1)]) (Nat.le_of_ble_eq_true rfl) rfl ?_
                exact (s60_l q0 la2 ua2 la3 ua3 la4 ua4 la5 ua5 80) _ _ _ _ _ _ _ g15452 k15452 (by omega) (by omega) (by omega) (by omega) (by omega) (by omega) (by omega) (by omega) (by omega) (by omega) (by omega) (by omega) (by omega) (by omega) (by omega) (by omega) (by omega) (by omega) (by omega) (by omega) (by omega) (by omega)
              · refine ev_iconst ?_
                exact ev_ret rfl (by decide) (by decide) ⟨_, rfl, by omega, by omega, g15452, k15452⟩
      · refine ev_iload_n rfl ?_
        refine ev_goto f381_10 ?_
        refine ev_ret rfl (by decide) (by decide) ?_
        show jEv _ _ _ _ _ _ _ (_, [(2, (r0 : Int)), (2, 1), (0, a2), (0, a3), (0, a4), (0, a5), (0, v15377), (0, v15379), (0, 99), (9, 0), (9, 0), (9, 0), (9, 0)], [(0, a5)], _, _, _)
        refine ev_istore (L' := [(2, (r0 : Int)), (2, 1), (0, a2), (0, a3), (0, a4), (0, a5), (0, v15377), (0, v15379), (0, 99), (0, a5), (9, 0), (9, 0), (9, 0)]) (Nat.le_of_ble_eq_true rfl) rfl ?_
        refine ev_iload_n rfl ?_
        refine ev_iconst ?_
        refine ev_icmpne f60_86 (fun c15455 => ?_) (fun c15455 => absurd c15455 (by omega))
        refine ev_iconst ?_
        refine ev_iload rfl ?_
        refine ev_iconst ?_
        refine ev_icmpne f60_97 (fun c15456 => absurd c15456 (by omega)) (fun c15456 => ?_)
        refine ev_iconst ?_
        refine ev_goto f60_98 ?_
        refine ev_icmpne f60_115 (fun c15457 => ?_) (fun c15457 => absurd c15457 (by omega))
        refine ev_ldc2_w ?_
        refine ev_aload_n rfl ?_
        refine ev_aload_n rfl ?_
        refine ev_iload rfl ?_
        refine ev_in (d := 2) (a := 0) (b := 0) (cd' := c58_0) (m := 3) (L0 := [(2, (r0 : Int)), (2, 1), (0, v15377)]) (jcall_v (A := [(0, v15377), (2, 1)]) (S' := [(1, (-100))]) (r := r0) rfl (g.qlt q0) (g.qtg q0) (Nat.le_of_ble_eq_true rfl)) (by decide) ml58 pp58 (Nat.le_of_ble_eq_true rfl) rfl (by decide) (by decide) ?_
        refine ev_aload_n rfl ?_
        refine ev_aload_n rfl ?_
        refine g_qgetp g q0 (c := 8) (by decide) (by decide) ft4_8 ?_
        refine ev_iload_n rfl ?_
        refine g_qiald g q0 (c := 8) (by decide) (by decide) (by decide) (by omega) (by show v15377 < m0; omega) rfl (fun v15458 ev15458 lv15458 uv15458 => ?_)
        refine ev_in (d := 1) (a := 0) (b := 0) (cd' := c161_0) (m := 2) (L0 := [(2, 1), (0, v15458)]) (jcall_v (A := [(0, v15458)]) (S' := []) (r := 1) rfl (g.lt ad1) (g.tg ad1) (Nat.le_of_ble_eq_true rfl)) (by decide) ml161 pp161 (Nat.le_of_ble_eq_true rfl) rfl (by decide) (by decide) ?_
        refine ev_iload_n rfl ?_
        refine ev_iflt f161_12 (fun c15459 => ?_) (fun c15459 => ?_)
        · refine ev_lconst ?_
          refine ev_goto f161_22 ?_
          refine ev_ret rfl (by decide) (by decide) ?_
          show jEv _ _ _ _ _ _ _ (_, [(2, (r0 : Int)), (2, 1), (0, v15377)], [(1, 0)], _, _, _)
          refine ev_ret rfl (by decide) (by decide) ?_
          show jEv _ _ _ _ _ _ _ (_, [(2, (r0 : Int)), (2, 1), (0, a2), (0, a3), (0, a4), (0, a5), (0, v15377), (0, v15379), (0, 99), (0, a5), (9, 0), (9, 0), (9, 0)], [(1, 0), (1, (-100))], _, _, _)
          refine ev_lmul (r := 0) (by decide) ?_
          refine ev_lstore (L' := [(2, (r0 : Int)), (2, 1), (0, a2), (0, a3), (0, a4), (0, a5), (0, v15377), (0, v15379), (0, 99), (0, a5), (1, 0), (9, 0), (9, 0)]) (Nat.le_of_ble_eq_true rfl) rfl ?_
          refine ev_iload rfl ?_
          refine ev_iconst ?_
          refine ev_icmplt f60_149 (fun c15460 => ?_) (fun c15460 => ?_)
          · refine ev_iconst ?_
            exact ev_ret rfl (by decide) (by decide) ⟨_, rfl, by omega, by omega, g, k0⟩
          · refine ev_aload_n rfl ?_
            refine ev_iload rfl ?_
            refine ev_iload rfl ?_
            refine ev_i2l ?_
            refine ev_lload rfl ?_
            refine ev_lmul (r := 0) (by unfold w64; omega) ?_
            refine ev_call (jcall_v (A := [(1, 0), (0, v15377)]) (S' := []) (r := r0) rfl (g.qlt q0) (g.qtg q0) (Nat.le_of_ble_eq_true rfl)) (jOk_le (by decide) (s61 g q0 (by omega) (by omega) (by omega) (by omega))) (by decide) (by decide) (fun w15461 h15461 q15461 => ?_)
            obtain ⟨v15462, rfl, lv15462, uv15462, g15461, kk15461⟩ := q15461
            have k15461 := k0.tr kk15461 (by decide)
            show jEv _ _ _ _ _ _ _ (_, [(2, (r0 : Int)), (2, 1), (0, a2), (0, a3), (0, a4), (0, a5), (0, v15377), (0, v15379), (0, 99), (0, a5), (1, 0), (9, 0), (9, 0)], [(0, v15462)], _, _, _)
            refine ev_ifne f60_151 (fun c15463 => ?_) (fun c15463 => ?_)
            · refine ev_iconst ?_
              refine ev_istore (L' := [(2, (r0 : Int)), (2, 1), (0, a2), (0, a3), (0, a4), (0, a5), (0, v15377), (0, v15379), (0, 99), (0, a5), (1, 0), (9, 0), (0, 1)]) (Nat.le_of_ble_eq_true rfl) rfl ?_
              exact (s60_l q0 la2 ua2 la3 ua3 la4 ua4 la5 ua5 80) _ _ _ _ _ _ _ g15461 k15461 (by omega) (by omega) (by omega) (by omega) (by omega) (by omega) (by omega) (by omega) (by omega) (by omega) (by omega) (by omega) (by omega) (by omega) (by omega) (by omega) (by omega) (by omega) (by omega) (by omega) (by omega) (by omega)
            · refine ev_iconst ?_
              exact ev_ret rfl (by decide) (by decide) ⟨_, rfl, by omega, by omega, g15461, k15461⟩
        · refine ev_iload_n rfl ?_
          refine ev_aload_n rfl ?_
          refine ev_in (d := 0) (a := 0) (b := 0) (cd' := c157_0) (m := 1) (L0 := [(2, 1)]) (jcall_v (A := []) (S' := [(0, v15458)]) (r := 1) rfl (g.lt ad1) (g.tg ad1) (Nat.le_of_ble_eq_true rfl)) (by decide) ml157 pp157 (Nat.le_of_ble_eq_true rfl) rfl (by decide) (by decide) ?_
          refine ev_iconst ?_
          refine ev_iconst ?_
          refine ev_aload_n rfl ?_
          obtain ⟨v15464, ev15464, lv15464, uv15464⟩ := g.rd ad1 (show 0 < 8 by decide) rf1_0
          refine g_getv (r := 1) (v := v15464) g ad1 (by decide) ft10_0 ev15464 ?_
          refine ev_imul (r := (2 * v15464)) (by unfold w32; omega) ?_
          refine g_ishlB (a' := 1) (a := 1) (b := 8) (hi := 256) (by omega) (by omega) (by omega) (by omega) (by decide) (by decide) (fun v15465 ev15465 lv15465 uv15465 => ?_)
          refine ev_ret rfl (by decide) (by decide) ?_
          show jEv _ _ _ _ _ _ _ (_, [(2, 1), (0, v15458)], [(0, v15465), (0, v15458)], _, _, _)
          refine ev_icmplt f161_16 (fun c15466 => ?_) (fun c15466 => ?_)
          · refine ev_aload_n rfl ?_
            refine g_getp (r := 1) (c := 6) g ad1 (by decide) (by decide) rf1_7 ft10_7 ?_
            refine ev_iload_n rfl ?_
            refine g_lald g ad6 rt6 (by omega) (by omega) (fun v15467 ev15467 lv15467 uv15467 => ?_)
            refine ev_ret rfl (by decide) (by decide) ?_
            show jEv _ _ _ _ _ _ _ (_, [(2, (r0 : Int)), (2, 1), (0, v15377)], [(1, v15467)], _, _, _)
            refine ev_ret rfl (by decide) (by decide) ?_
            show jEv _ _ _ _ _ _ _ (_, [(2, (r0 : Int)), (2, 1), (0, a2), (0, a3), (0, a4), (0, a5), (0, v15377), (0, v15379), (0, 99), (0, a5), (9, 0), (9, 0), (9, 0)], [(1, v15467), (1, (-100))], _, _, _)
            refine g_lmulG (fun v15468 ev15468 lv15468 uv15468 => ?_)
            refine ev_lstore (L' := [(2, (r0 : Int)), (2, 1), (0, a2), (0, a3), (0, a4), (0, a5), (0, v15377), (0, v15379), (0, 99), (0, a5), (1, v15468), (9, 0), (9, 0)]) (Nat.le_of_ble_eq_true rfl) rfl ?_
            refine ev_iload rfl ?_
            refine ev_iconst ?_
            refine ev_icmplt f60_149 (fun c15469 => ?_) (fun c15469 => ?_)
            · refine ev_iconst ?_
              exact ev_ret rfl (by decide) (by decide) ⟨_, rfl, by omega, by omega, g, k0⟩
            · refine ev_aload_n rfl ?_
              refine ev_iload rfl ?_
              refine ev_iload rfl ?_
              refine ev_i2l ?_
              refine ev_lload rfl ?_
              refine g_lmulG (fun v15470 ev15470 lv15470 uv15470 => ?_)
              refine ev_call (jcall_v (A := [(1, v15470), (0, v15377)]) (S' := []) (r := r0) rfl (g.qlt q0) (g.qtg q0) (Nat.le_of_ble_eq_true rfl)) (jOk_le (by decide) (s61 g q0 (by omega) (by omega) (by omega) (by omega))) (by decide) (by decide) (fun w15471 h15471 q15471 => ?_)
              obtain ⟨v15472, rfl, lv15472, uv15472, g15471, kk15471⟩ := q15471
              have k15471 := k0.tr kk15471 (by decide)
              show jEv _ _ _ _ _ _ _ (_, [(2, (r0 : Int)), (2, 1), (0, a2), (0, a3), (0, a4), (0, a5), (0, v15377), (0, v15379), (0, 99), (0, a5), (1, v15468), (9, 0), (9, 0)], [(0, v15472)], _, _, _)
              refine ev_ifne f60_151 (fun c15473 => ?_) (fun c15473 => ?_)
              · refine ev_iconst ?_
                refine ev_istore (L' := [(2, (r0 : Int)), (2, 1), (0, a2), (0, a3), (0, a4), (0, a5), (0, v15377), (0, v15379), (0, 99), (0, a5), (1, v15468), (9, 0), (0, 1)]) (Nat.le_of_ble_eq_true rfl) rfl ?_
                exact (s60_l q0 la2 ua2 la3 ua3 la4 ua4 la5 ua5 80) _ _ _ _ _ _ _ g15471 k15471 (by omega) (by omega) (by omega) (by omega) (by omega) (by omega) (by omega) (by omega) (by omega) (by omega) (by omega) (by omega) (by omega) (by omega) (by omega) (by omega) (by omega) (by omega) (by omega) (by omega) (by omega) (by omega)
              · refine ev_iconst ?_
                exact ev_ret rfl (by decide) (by decide) ⟨_, rfl, by omega, by omega, g15471, k15471⟩
          · refine ev_lconst ?_
            refine ev_goto f161_22 ?_
            refine ev_ret rfl (by decide) (by decide) ?_
            show jEv _ _ _ _ _ _ _ (_, [(2, (r0 : Int)), (2, 1), (0, v15377)], [(1, 0)], _, _, _)
            refine ev_ret rfl (by decide) (by decide) ?_
            show jEv _ _ _ _ _ _ _ (_, [(2, (r0 : Int)), (2, 1), (0, a2), (0, a3), (0, a4), (0, a5), (0, v15377), (0, v15379), (0, 99), (0, a5), (9, 0), (9, 0), (9, 0)], [(1, 0), (1, (-100))], _, _, _)
            refine ev_lmul (r := 0) (by decide) ?_
            refine ev_lstore (L' := [(2, (r0 : Int)), (2, 1), (0, a2), (0, a3), (0, a4), (0, a5), (0, v15377), (0, v15379), (0, 99), (0, a5), (1, 0), (9, 0), (9, 0)]) (Nat.le_of_ble_eq_true rfl) rfl ?_
            refine ev_iload rfl ?_
            refine ev_iconst ?_
            refine ev_icmplt f60_149 (fun c15474 => ?_) (fun c15474 => ?_)
            · refine ev_iconst ?_
              exact ev_ret rfl (by decide) (by decide) ⟨_, rfl, by omega, by omega, g, k0⟩
            · refine ev_aload_n rfl ?_
              refine ev_iload rfl ?_
              refine ev_iload rfl ?_
              refine ev_i2l ?_
              refine ev_lload rfl ?_
              refine ev_lmul (r := 0) (by unfold w64; omega) ?_
              refine ev_call (jcall_v (A := [(1, 0), (0, v15377)]) (S' := []) (r := r0) rfl (g.qlt q0) (g.qtg q0) (Nat.le_of_ble_eq_true rfl)) (jOk_le (by decide) (s61 g q0 (by omega) (by omega) (by omega) (by omega))) (by decide) (by decide) (fun w15475 h15475 q15475 => ?_)
              obtain ⟨v15476, rfl, lv15476, uv15476, g15475, kk15475⟩ := q15475
              have k15475 := k0.tr kk15475 (by decide)
              show jEv _ _ _ _ _ _ _ (_, [(2, (r0 : Int)), (2, 1), (0, a2), (0, a3), (0, a4), (0, a5), (0, v15377), (0, v15379), (0, 99), (0, a5), (1, 0), (9, 0), (9, 0)], [(0, v15476)], _, _, _)
              refine ev_ifne f60_151 (fun c15477 => ?_) (fun c15477 => ?_)
              · refine ev_iconst ?_
                refine ev_istore (L' := [(2, (r0 : Int)), (2, 1), (0, a2), (0, a3), (0, a4), (0, a5), (0, v15377), (0, v15379), (0, 99), (0, a5), (1, 0), (9, 0), (0, 1)]) (Nat.le_of_ble_eq_true rfl) rfl ?_
                exact (s60_l q0 la2 ua2 la3 ua3 la4 ua4 la5 ua5 80) _ _ _ _ _ _ _ g15475 k15475 (by omega) (by omega) (by omega) (by omega) (by omega) (by omega) (by omega) (by omega) (by omega) (by omega) (by omega) (by omega) (by omega) (by omega) (by omega) (by omega) (by omega) (by omega) (by omega) (by omega) (by omega) (by omega)
              · refine ev_iconst ?_
                exact ev_ret rfl (by decide) (by decide) ⟨_, rfl, by omega, by omega, g15475, k15475⟩
  · refine ev_iload_n rfl ?_
    refine ev_goto f60_15 ?_
    refine ev_istore (L' := [(2, (r0 : Int)), (2, 1), (0, a2), (0, a3), (0, a4), (0, a5), (0, a2), (9, 0), (9, 0), (9, 0), (9, 0), (9, 0), (9, 0)]) (Nat.le_of_ble_eq_true rfl) rfl ?_
    refine ev_aload_n rfl ?_
    refine ev_iload_n rfl ?_
    refine ev_iload_n rfl ?_
    refine ev_in (d := 2) (a := 0) (b := 0) (cd' := c34_0) (m := 3) (L0 := [(2, (r0 : Int)), (0, a2), (0, a3)]) (jcall_v (A := [(0, a3), (0, a2)]) (S' := []) (r := r0) rfl (g.qlt q0) (g.qtg q0) (Nat.le_of_ble_eq_true rfl)) (by decide) ml34 pp34 (Nat.le_of_ble_eq_true rfl) rfl (by decide) (by decide) ?_
    refine ev_iload_n rfl ?_
    refine ev_iconst ?_
    refine ev_icmpne f34_14 (fun c15478 => absurd c15478 (by omega)) (fun c15478 => ?_)
    refine ev_aload_n rfl ?_
    refine g_qgetp g q0 (c := 3) (by decide) (by decide) ft4_3 ?_
    refine ev_iload_n rfl ?_
    refine g_qiald g q0 (c := 3) (by decide) (by decide) (by decide) (by omega) (by show a2 < m0; omega) rfl (fun v15479 ev15479 lv15479 uv15479 => ?_)
    refine ev_goto f34_20 ?_
    refine ev_ret rfl (by decide) (by decide) ?_
    show jEv _ _ _ _ _ _ _ (_, [(2, (r0 : Int)), (2, 1), (0, a2), (0, a3), (0, a4), (0, a5), (0, a2), (9, 0), (9, 0), (9, 0), (9, 0), (9, 0), (9, 0)], [(0, v15479)], _, _, _)
    refine ev_istore (L' := [(2, (r0 : Int)), (2, 1), (0, a2), (0, a3), (0, a4), (0, a5), (0, a2), (0, v15479), (9, 0), (9, 0), (9, 0), (9, 0), (9, 0)]) (Nat.le_of_ble_eq_true rfl) rfl ?_
    refine ev_iload_n rfl ?_
    refine ev_iconst ?_
    refine ev_icmpne f60_36 (fun c15480 => absurd c15480 (by omega)) (fun c15480 => ?_)
    refine ev_sipush ?_
    refine ev_goto f60_38 ?_
    refine ev_istore (L' := [(2, (r0 : Int)), (2, 1), (0, a2), (0, a3), (0, a4), (0, a5), (0, a2), (0, v15479), (0, 999), (9, 0), (9, 0), (9, 0), (9, 0)]) (Nat.le_of_ble_eq_true rfl) rfl ?_
    refine ev_iload rfl ?_
    refine ev_iload rfl ?_
    refine ev_iconst ?_
    refine ev_icmpne f60_56 (fun c15481 => ?_) (fun c15481 => ?_)
    · refine ev_iload_n rfl ?_
      refine ev_iconst ?_
      refine ev_icmpne f60_70 (fun c15482 => absurd c15482 (by omega)) (fun c15482 => ?_)
      refine ev_iload rfl ?_
      refine ev_sipush ?_
      refine g_iaddG (fun v15483 ev15483 lv15483 uv15483 => ?_)
      refine ev_goto f60_72 ?_
      refine ev_in (d := 2) (a := 0) (b := 0) (cd' := c381_0) (m := 2) (L0 := [(0, a5), (0, v15483)]) (jcall_s (A := [(0, v15483), (0, a5)]) (S' := []) (by decide) rfl (Nat.le_of_ble_eq_true rfl)) (by decide) ml381 pp381 (Nat.le_of_ble_eq_true rfl) rfl (by decide) (by decide) ?_
      refine ev_iload_n rfl ?_
      refine ev_iload_n rfl ?_
      refine ev_icmpgt f381_9 (fun c15484 => ?_) (fun c15484 => ?_)
      · refine ev_iload_n rfl ?_
        refine ev_ret rfl (by decide) (by decide) ?_
        show jEv _ _ _ _ _ _ _ (_, [(2, (r0 : Int)), (2, 1), (0, a2), (0, a3), (0, a4), (0, a5), (0, a2), (0, v15479), (0, 999), (9, 0), (9, 0), (9, 0), (9, 0)], [(0, v15483)], _, _, _)
        refine ev_istore (L' := [(2, (r0 : Int)), (2, 1), (0, a2), (0, a3), (0, a4), (0, a5), (0, a2), (0, v15479), (0, 999), (0, v15483), (9, 0), (9, 0), (9, 0)]) (Nat.le_of_ble_eq_true rfl) rfl ?_
        refine ev_iload_n rfl ?_
        refine ev_iconst ?_
        refine ev_icmpne f60_86 (fun c15485 => absurd c15485 (by omega)) (fun c15485 => ?_)
        refine ev_iconst ?_
        refine ev_goto f60_87 ?_
        refine ev_iload rfl ?_
        refine ev_iconst ?_
        refine ev_icmpne f60_97 (fun c15486 => ?_) (fun c15486 => absurd c15486 (by omega))
        refine ev_iconst ?_
        refine ev_icmpne f60_115 (fun c15487 => ?_) (fun c15487 => absurd c15487 (by omega))
        refine ev_ldc2_w ?_
        refine ev_aload_n rfl ?_
        refine ev_aload_n rfl ?_
        refine ev_iload rfl ?_
        refine ev_in (d := 2) (a := 0) (b := 0) (cd' := c58_0) (m := 3) (L0 := [(2, (r0 : Int)), (2, 1), (0, a2)]) (jcall_v (A := [(0, a2), (2, 1)]) (S' := [(1, (-100))]) (r := r0) rfl (g.qlt q0) (g.qtg q0) (Nat.le_of_ble_eq_true rfl)) (by decide) ml58 pp58 (Nat.le_of_ble_eq_true rfl) rfl (by decide) (by decide) ?_
        refine ev_aload_n rfl ?_
        refine ev_aload_n rfl ?_
        refine g_qgetp g q0 (c := 8) (by decide) (by decide) ft4_8 ?_
        refine ev_iload_n rfl ?_
        refine g_qiald g q0 (c := 8) (by decide) (by decide) (by decide) (by omega) (by show a2 < m0; omega) rfl (fun v15488 ev15488 lv15488 uv15488 => ?_)
        refine ev_in (d := 1) (a := 0) (b := 0) (cd' := c161_0) (m := 2) (L0 := [(2, 1), (0, v15488)]) (jcall_v (A := [(0, v15488)]) (S' := []) (r := 1) rfl (g.lt ad1) (g.tg ad1) (Nat.le_of_ble_eq_true rfl)) (by decide) ml161 pp161 (Nat.le_of_ble_eq_true rfl) rfl (by decide) (by decide) ?_
        refine ev_iload_n rfl ?_
        refine ev_iflt f161_12 (fun c15489 => ?_) (fun c15489 => ?_)
        · refine ev_lconst ?_
          refine ev_goto f161_22 ?_
          refine ev_ret rfl (by decide) (by decide) ?_
          show jEv _ _ _ _ _ _ _ (_, [(2, (r0 : Int)), (2, 1), (0, a2)], [(1, 0)], _, _, _)
          refine ev_ret rfl (by decide) (by decide) ?_
          show jEv _ _ _ _ _ _ _ (_, [(2, (r0 : Int)), (2, 1), (0, a2), (0, a3), (0, a4), (0, a5), (0, a2), (0, v15479), (0, 999), (0, v15483), (9, 0), (9, 0), (9, 0)], [(1, 0), (1, (-100))], _, _, _)
          refine ev_lmul (r := 0) (by decide) ?_
          refine ev_lstore (L' := [(2, (r0 : Int)), (2, 1), (0, a2), (0, a3), (0, a4), (0, a5), (0, a2), (0, v15479), (0, 999), (0, v15483), (1, 0), (9, 0), (9, 0)]) (Nat.le_of_ble_eq_true rfl) rfl ?_
          refine ev_iload rfl ?_
          refine ev_iconst ?_
          refine ev_icmplt f60_149 (fun c15490 => ?_) (fun c15490 => ?_)
          · refine ev_iconst ?_
            exact ev_ret rfl (by decide) (by decide) ⟨_, rfl, by omega, by omega, g, k0⟩
          · refine ev_aload_n rfl ?_
            refine ev_iload rfl ?_
            refine ev_iload rfl ?_
            refine ev_i2l ?_
            refine ev_lload rfl ?_
            refine ev_lmul (r := 0) (by unfold w64; omega) ?_
            refine ev_call (jcall_v (A := [(1, 0), (0, a2)]) (S' := []) (r := r0) rfl (g.qlt q0) (g.qtg q0) (Nat.le_of_ble_eq_true rfl)) (jOk_le (by decide) (s61 g q0 (by omega) (by omega) (by omega) (by omega))) (by decide) (by decide) (fun w15491 h15491 q15491 => ?_)
            obtain ⟨v15492, rfl, lv15492, uv15492, g15491, kk15491⟩ := q15491
            have k15491 := k0.tr kk15491 (by decide)
            show jEv _ _ _ _ _ _ _ (_, [(2, (r0 : Int)), (2, 1), (0, a2), (0, a3), (0, a4), (0, a5), (0, a2), (0, v15479), (0, 999), (0, v15483), (1, 0), (9, 0), (9, 0)], [(0, v15492)], _, _, _)
            refine ev_ifne f60_151 (fun c15493 => ?_) (fun c15493 => ?_)
            · refine ev_iconst ?_
              refine ev_istore (L' := [(2, (r0 : Int)), (2, 1), (0, a2), (0, a3), (0, a4), (0, a5), (0, a2), (0, v15479), (0, 999), (0, v15483), (1, 0), (9, 0), (0, 1)]) (Nat.le_of_ble_eq_true rfl) rfl ?_
              exact (s60_l q0 la2 ua2 la3 ua3 la4 ua4 la5 ua5 80) _ _ _ _ _ _ _ g15491 k15491 (by omega) (by omega) (by omega) (by omega) (by omega) (by omega) (by omega) (by omega) (by omega) (by omega) (by omega) (by omega) (by omega) (by omega) (by omega) (by omega) (by omega) (by omega) (by omega) (by omega) (by omega) (by omega)
            · refine ev_iconst ?_
              exact ev_ret rfl (by decide) (by decide) ⟨_, rfl, by omega, by omega, g15491, k15491⟩
        · refine ev_iload_n rfl ?_
          refine ev_aload_n rfl ?_
          refine ev_in (d := 0) (a := 0) (b := 0) (cd' := c157_0) (m := 1) (L0 := [(2, 1)]) (jcall_v (A := []) (S' := [(0, v15488)]) (r := 1) rfl (g.lt ad1) (g.tg ad1) (Nat.le_of_ble_eq_true rfl)) (by decide) ml157 pp157 (Nat.le_of_ble_eq_true rfl) rfl (by decide) (by decide) ?_
          refine ev_iconst ?_
          refine ev_iconst ?_
          refine ev_aload_n rfl ?_
          obtain ⟨v15494, ev15494, lv15494, uv15494⟩ := g.rd ad1 (show 0 < 8 by decide) rf1_0
          refine g_getv (r := 1) (v := v15494) g ad1 (by decide) ft10_0 ev15494 ?_
          refine ev_imul (r := (2 * v15494)) (by unfold w32; omega) ?_
          refine g_ishlB (a' := 1) (a := 1) (b := 8) (hi := 256) (by omega) (by omega) (by omega) (by omega) (by decide) (by decide) (fun v15495 ev15495 lv15495 uv15495 => ?_)
          refine ev_ret rfl (by decide) (by decide) ?_
          show jEv _ _ _ _ _ _ _ (_, [(2, 1), (0, v15488)], [(0, v15495), (0, v15488)], _, _, _)
          refine ev_icmplt f161_16 (fun c15496 => ?_) (fun c15496 => ?_)
          · refine ev_aload_n rfl ?_
            refine g_getp (r := 1) (c := 6) g ad1 (by decide) (by decide) rf1_7 ft10_7 ?_
            refine ev_iload_n rfl ?_
            refine g_lald g ad6 rt6 (by omega) (by omega) (fun v15497 ev15497 lv15497 uv15497 => ?_)
            refine ev_ret rfl (by decide) (by decide) ?_
            show jEv _ _ _ _ _ _ _ (_, [(2, (r0 : Int)), (2, 1), (0, a2)], [(1, v15497)], _, _, _)
            refine ev_ret rfl (by decide) (by decide) ?_
            show jEv _ _ _ _ _ _ _ (_, [(2, (r0 : Int)), (2, 1), (0, a2), (0, a3), (0, a4), (0, a5), (0, a2), (0, v15479), (0, 999), (0, v15483), (9, 0), (9, 0), (9, 0)], [(1, v15497), (1, (-100))], _, _, _)
            refine g_lmulG (fun v15498 ev15498 lv15498 uv15498 => ?_)
            refine ev_lstore (L' := [(2, (r0 : Int)), (2, 1), (0, a2), (0, a3), (0, a4), (0, a5), (0, a2), (0, v15479), (0, 999), (0, v15483), (1, v15498), (9, 0), (9, 0)]) (Nat.le_of_ble_eq_true rfl) rfl ?_
            refine ev_iload rfl ?_
            refine ev_iconst ?_
            refine ev_icmplt f60_149 (fun c15499 => ?_) (fun c15499 => ?_)
            · refine ev_iconst ?_
              exact ev_ret rfl (by decide) (by decide) ⟨_, rfl, by omega, by omega, g, k0⟩
            · refine ev_aload_n rfl ?_
              refine ev_iload rfl ?_
              refine ev_iload rfl ?_
              refine ev_i2l ?_
              refine ev_lload rfl ?_
              refine g_lmulG (fun v15500 ev15500 lv15500 uv15500 => ?_)
              refine ev_call (jcall_v (A := [(1, v15500), (0, a2)]) (S' := []) (r := r0) rfl (g.qlt q0) (g.qtg q0) (Nat.le_of_ble_eq_true rfl)) (jOk_le (by decide) (s61 g q0 (by omega) (by omega) (by omega) (by omega))) (by decide) (by decide) (fun w15501 h15501 q15501 => ?_)
              obtain ⟨v15502, rfl, lv15502, uv15502, g15501, kk15501⟩ := q15501
              have k15501 := k0.tr kk15501 (by decide)
              show jEv _ _ _ _ _ _ _ (_, [(2, (r0 : Int)), (2, 1), (0, a2), (0, a3), (0, a4), (0, a5), (0, a2), (0, v15479), (0, 999), (0, v15483), (1, v15498), (9, 0), (9, 0)], [(0, v15502)], _, _, _)
              refine ev_ifne f60_151 (fun c15503 => ?_) (fun c15503 => ?_)
              · refine ev_iconst ?_
                refine ev_istore (L' := [(2, (r0 : Int)), (2, 1), (0, a2), (0, a3), (0, a4), (0, a5), (0, a2), (0, v15479), (0, 999), (0, v15483), (1, v15498), (9, 0), (0, 1)]) (Nat.le_of_ble_eq_true rfl) rfl ?_
                exact (s60_l q0 la2 ua2 la3 ua3 la4 ua4 la5 ua5 80) _ _ _ _ _ _ _ g15501 k15501 (by omega) (by omega) (by omega) (by omega) (by omega) (by omega) (by omega) (by omega) (by omega) (by omega) (by omega) (by omega) (by omega) (by omega) (by omega) (by omega) (by omega) (by omega) (by omega) (by omega) (by omega) (by omega)
              · refine ev_iconst ?_
                exact ev_ret rfl (by decide) (by decide) ⟨_, rfl, by omega, by omega, g15501, k15501⟩
          · refine ev_lconst ?_
            refine ev_goto f161_22 ?_
            refine ev_ret rfl (by decide) (by decide) ?_
            show jEv _ _ _ _ _ _ _ (_, [(2, (r0 : Int)), (2, 1), (0, a2)], [(1, 0)], _, _, _)
            refine ev_ret rfl (by decide) (by decide) ?_
            show jEv _ _ _ _ _ _ _ (_, [(2, (r0 : Int)), (2, 1), (0, a2), (0, a3), (0, a4), (0, a5), (0, a2), (0, v15479), (0, 999), (0, v15483), (9, 0), (9, 0), (9, 0)], [(1, 0), (1, (-100))], _, _, _)
            refine ev_lmul (r := 0) (by decide) ?_
            refine ev_lstore (L' := [(2, (r0 : Int)), (2, 1), (0, a2), (0, a3), (0, a4), (0, a5), (0, a2), (0, v15479), (0, 999), (0, v15483), (1, 0), (9, 0), (9, 0)]) (Nat.le_of_ble_eq_true rfl) rfl ?_
            refine ev_iload rfl ?_
            refine ev_iconst ?_
            refine ev_icmplt f60_149 (fun c15504 => ?_) (fun c15504 => ?_)
            · refine ev_iconst ?_
              exact ev_ret rfl (by decide) (by decide) ⟨_, rfl, by omega, by omega, g, k0⟩
            · refine ev_aload_n rfl ?_
              refine ev_iload rfl ?_
              refine ev_iload rfl ?_
              refine ev_i2l ?_
              refine ev_lload rfl ?_
              refine ev_lmul (r := 0) (by unfold w64; omega) ?_
              refine ev_call (jcall_v (A := [(1, 0), (0, a2)]) (S' := []) (r := r0) rfl (g.qlt q0) (g.qtg q0) (Nat.le_of_ble_eq_true rfl)) (jOk_le (by decide) (s61 g q0 (by omega) (by omega) (by omega) (by omega))) (by decide) (by decide) (fun w15505 h15505 q15505 => ?_)
              obtain ⟨v15506, rfl, lv15506, uv15506, g15505, kk15505⟩ := q15505
              have k15505 := k0.tr kk15505 (by decide)
              show jEv _ _ _ _ _ _ _ (_, [(2, (r0 : Int)), (2, 1), (0, a2), (0, a3), (0, a4), (0, a5), (0, a2), (0, v15479), (0, 999), (0, v15483), (1, 0), (9, 0), (9, 0)], [(0, v15506)], _, _, _)
              refine ev_ifne f60_151 (fun c15507 => ?_) (fun c15507 => ?_)
              · refine ev_iconst ?_
                refine ev_istore (L' := [(2, (r0 : Int)), (2, 1), (0, a2), (0, a3), (0, a4), (0, a5), (0, a2), (0, v15479), (0, 999), (0, v15483), (1, 0), (9, 0), (0, 1)]) (Nat.le_of_ble_eq_true rfl) rfl ?_
                exact (s60_l q0 la2 ua2 la3 ua3 la4 ua4 la5 ua5 80) _ _ _ _ _ _ _ g15505 k15505 (by omega) (by omega) (by omega) (by omega) (by omega) (by omega) (by omega) (by omega) (by omega) (by omega) (by omega) (by omega) (by omega) (by omega) (by omega) (by omega) (by omega) (by omega) (by omega) (by omega) (by omega) (by omega)
              · refine ev_iconst ?_
                exact ev_ret rfl (by decide) (by decide) ⟨_, rfl, by omega, by omega, g15505, k15505⟩
      · refine ev_iload_n rfl ?_
        refine ev_goto f381_10 ?_
        refine ev_ret rfl (by decide) (by decide) ?_
        show jEv _ _ _ _ _ _ _ (_, [(2, (r0 : Int)), (2, 1), (0, a2), (0, a3), (0, a4), (0, a5), (0, a2), (0, v15479), (0, 999), (9, 0), (9, 0), (9, 0), (9, 0)], [(0, a5)], _, _, _)
        refine ev_istore (L' := [(2, (r0 : Int)), (2, 1), (0, a2), (0, a3), (0, a4), (0, a5), (0, a2), (0, v15479), (0, 999), (0, a5), (9, 0), (9, 0), (9, 0)]) (Nat.le_of_ble_eq_true rfl) rfl ?_
        refine ev_iload_n rfl ?_
        refine ev_iconst ?_
        refine ev_icmpne f60_86 (fun c15508 => absurd c15508 (by omega)) (fun c15508 => ?_)
        refine ev_iconst ?_
        refine ev_goto f60_87 ?_
        refine ev_iload rfl ?_
        refine ev_iconst ?_
        refine ev_icmpne f60_97 (fun c15509 => ?_) (fun c15509 => absurd c15509 (by omega))
        refine ev_iconst ?_
        refine ev_icmpne f60_115 (fun c15510 => ?_) (fun c15510 => absurd c15510 (by omega))
        refine ev_ldc2_w ?_
        refine ev_aload_n rfl ?_
        refine ev_aload_n rfl ?_
        refine ev_iload rfl ?_
        refine ev_in (d := 2) (a := 0) (b := 0) (cd' := c58_0) (m := 3) (L0 := [(2, (r0 : Int)), (2, 1), (0, a2)]) (jcall_v (A := [(0, a2), (2, 1)]) (S' := [(1, (-100))]) (r := r0) rfl (g.qlt q0) (g.qtg q0) (Nat.le_of_ble_eq_true rfl)) (by decide) ml58 pp58 (Nat.le_of_ble_eq_true rfl) rfl (by decide) (by decide) ?_
        refine ev_aload_n rfl ?_
        refine ev_aload_n rfl ?_
        refine g_qgetp g q0 (c := 8) (by decide) (by decide) ft4_8 ?_
        refine ev_iload_n rfl ?_
        refine g_qiald g q0 (c := 8) (by decide) (by decide) (by decide) (by omega) (by show a2 < m0; omega) rfl (fun v15511 ev15511 lv15511 uv15511 => ?_)
        refine ev_in (d := 1) (a := 0) (b := 0) (cd' := c161_0) (m := 2) (L0 := [(2, 1), (0, v15511)]) (jcall_v (A := [(0, v15511)]) (S' := []) (r := 1) rfl (g.lt ad1) (g.tg ad1) (Nat.le_of_ble_eq_true rfl)) (by decide) ml161 pp161 (Nat.le_of_ble_eq_true rfl) rfl (by decide) (by decide) ?_
        refine ev_iload_n rfl ?_
        refine ev_iflt f161_12 (fun c15512 => ?_) (fun c15512 => ?_)
        · refine ev_lconst ?_
          refine ev_goto f161_22 ?_
          refine ev_ret rfl (by decide) (by decide) ?_
          show jEv _ _ _ _ _ _ _ (_, [(2, (r0 : Int)), (2, 1), (0, a2)], [(1, 0)], _, _, _)
          refine ev_ret rfl (by decide) (by decide) ?_
          show jEv _ _ _ _ _ _ _ (_, [(2, (r0 : Int)), (2, 1), (0, a2), (0, a3), (0, a4), (0, a5), (0, a2), (0, v15479), (0, 999), (0, a5), (9, 0), (9, 0), (9, 0)], [(1, 0), (1, (-100))], _, _, _)
          refine ev_lmul (r := 0) (by decide) ?_
          refine ev_lstore (L' := [(2, (r0 : Int)), (2, 1), (0, a2), (0, a3), (0, a4), (0, a5), (0, a2), (0, v15479), (0, 999), (0, a5), (1, 0), (9, 0), (9, 0)]) (Nat.le_of_ble_eq_true rfl) rfl ?_
          refine ev_iload rfl ?_
          refine ev_iconst ?_
          refine ev_icmplt f60_149 (fun c15513 => ?_) (fun c15513 => ?_)
          · refine ev_iconst ?_
            exact ev_ret rfl (by decide) (by decide) ⟨_, rfl, by omega, by omega, g, k0⟩
          · refine ev_aload_n rfl ?_
            refine ev_iload rfl ?_
            refine ev_iload rfl ?_
            refine ev_i2l ?_
            refine ev_lload rfl ?_
            refine ev_lmul (r := 0) (by unfold w64; omega) ?_
            refine ev_call (jcall_v (A := [(1, 0), (0, a2)]) (S' := []) (r := r0) rfl (g.qlt q0) (g.qtg q0) (Nat.le_of_ble_eq_true rfl)) (jOk_le (by decide) (s61 g q0 (by omega) (by omega) (by omega) (by omega))) (by decide) (by decide) (fun w15514 h15514 q15514 => ?_)
            obtain ⟨v15515, rfl, lv15515, uv15515, g15514, kk15514⟩ := q15514
            have k15514 := k0.tr kk15514 (by decide)
            show jEv _ _ _ _ _ _ _ (_, [(2, (r0 : Int)), (2, 1), (0, a2), (0, a3), (0, a4), (0, a5), (0, a2), (0, v15479), (0, 999), (0, a5), (1, 0), (9, 0), (9, 0)], [(0, v15515)], _, _, _)
            refine ev_ifne f60_151 (fun c15516 => ?_) (fun c15516 => ?_)
            · refine ev_iconst ?_
              refine ev_istore (L' := [(2, (r0 : Int)), (2, 1), (0, a2), (0, a3), (0, a4), (0, a5), (0, a2), (0, v15479), (0, 999), (0, a5), (1, 0), (9, 0), (0, 1)]) (Nat.le_of_ble_eq_true rfl) rfl ?_
              exact (s60_l q0 la2 ua2 la3 ua3 la4 ua4 la5 ua5 80) _ _ _ _ _ _ _ g15514 k15514 (by omega) (by omega) (by omega) (by omega) (by omega) (by omega) (by omega) (by omega) (by omega) (by omega) (by omega) (by omega) (by omega) (by omega) (by omega) (by omega) (by omega) (by omega) (by omega) (by omega) (by omega) (by omega)
            · refine ev_iconst ?_
              exact ev_ret rfl (by decide) (by decide) ⟨_, rfl, by omega, by omega, g15514, k15514⟩
        · refine ev_iload_n rfl ?_
          refine ev_aload_n rfl ?_
          refine ev_in (d := 0) (a := 0) (b := 0) (cd' := c157_0) (m := 1) (L0 := [(2, 1)]) (jcall_v (A := []) (S' := [(0, v15511)]) (r := 1) rfl (g.lt ad1) (g.tg ad1) (Nat.le_of_ble_eq_true rfl)) (by decide) ml157 pp157 (Nat.le_of_ble_eq_true rfl) rfl (by decide) (by decide) ?_
          refine ev_iconst ?_
          refine ev_iconst ?_
          refine ev_aload_n rfl ?_
          obtain ⟨v15517, ev15517, lv15517, uv15517⟩ := g.rd ad1 (show 0 < 8 by decide) rf1_0
          refine g_getv (r := 1) (v := v15517) g ad1 (by decide) ft10_0 ev15517 ?_
          refine ev_imul (r := (2 * v15517)) (by unfold w32; omega) ?_
          refine g_ishlB (a' := 1) (a := 1) (b := 8) (hi := 256) (by omega) (by omega) (by omega) (by omega) (by decide) (by decide) (fun v15518 ev15518 lv15518 uv15518 => ?_)
          refine ev_ret rfl (by decide) (by decide) ?_
          show jEv _ _ _ _ _ _ _ (_, [(2, 1), (0, v15511)], [(0, v15518), (0, v15511)], _, _, _)
          refine ev_icmplt f161_16 (fun c15519 => ?_) (fun c15519 => ?_)
          · refine ev_aload_n rfl ?_
            refine g_getp (r := 1) (c := 6) g ad1 (by decide) (by decide) rf1_7 ft10_7 ?_
            refine ev_iload_n rfl ?_
            refine g_lald g ad6 rt6 (by omega) (by omega) (fun v15520 ev15520 lv15520 uv15520 => ?_)
            refine ev_ret rfl (by decide) (by decide) ?_
            show jEv _ _ _ _ _ _ _ (_, [(2, (r0 : Int)), (2, 1), (0, a2)], [(1, v15520)], _, _, _)
            refine ev_ret rfl (by decide) (by decide) ?_
            show jEv _ _ _ _ _ _ _ (_, [(2, (r0 : Int)), (2, 1), (0, a2), (0, a3), (0, a4), (0, a5), (0, a2), (0, v15479), (0, 999), (0, a5), (9, 0), (9, 0), (9, 0)], [(1, v15520), (1, (-100))], _, _, _)
            refine g_lmulG (fun v15521 ev15521 lv15521 uv15521 => ?_)
            refine ev_lstore (L' := [(2, (r0 : Int)), (2, 1), (0, a2), (0, a3), (0, a4), (0, a5), (0, a2), (0, v15479), (0, 999), (0, a5), (1, v15521), (9, 0), (9, 0)]) (Nat.le_of_ble_eq_true rfl) rfl ?_
            refine ev_iload rfl ?_
            refine ev_iconst ?_
            refine ev_icmplt f60_149 (fun c15522 => ?_) (fun c15522 => ?_)
            · refine ev_iconst ?_
              exact ev_ret rfl (by decide) (by decide) ⟨_, rfl, by omega, by omega, g, k0⟩
            · refine ev_aload_n rfl ?_
              refine ev_iload rfl ?_
              refine ev_iload rfl ?_
              refine ev_i2l ?_
              refine ev_lload rfl ?_
              refine g_lmulG (fun v15523 ev15523 lv15523 uv15523 => ?_)
              refine ev_call (jcall_v (A := [(1, v15523), (0, a2)]) (S' := []) (r := r0) rfl (g.qlt q0) (g.qtg q0) (Nat.le_of_ble_eq_true rfl)) (jOk_le (by decide) (s61 g q0 (by omega) (by omega) (by omega) (by omega))) (by decide) (by decide) (fun w15524 h15524 q15524 => ?_)
              obtain ⟨v15525, rfl, lv15525, uv15525, g15524, kk15524⟩ := q15524
              have k15524 := k0.tr kk15524 (by decide)
              show jEv _ _ _ _ _ _ _ (_, [(2, (r0 : Int)), (2, 1), (0, a2), (0, a3), (0, a4), (0, a5), (0, a2), (0, v15479), (0, 999), (0, a5), (1, v15521), (9, 0), (9, 0)], [(0, v15525)], _, _, _)
              refine ev_ifne f60_151 (fun c15526 => ?_) (fun c15526 => ?_)
              · refine ev_iconst ?_
                refine ev_istore (L' := [(2, (r0 : Int)), (2, 1), (0, a2), (0, a3), (0, a4), (0, a5), (0, a2), (0, v15479), (0, 999), (0, a5), (1, v15521), (9, 0), (0, 1)]) (Nat.le_of_ble_eq_true rfl) rfl ?_
                exact (s60_l q0 la2 ua2 la3 ua3 la4 ua4 la5 ua5 80) _ _ _ _ _ _ _ g15524 k15524 (by omega) (by omega) (by omega) (by omega) (by omega) (by omega) (by omega) (by omega) (by omega) (by omega) (by omega) (by omega) (by omega) (by omega) (by omega) (by omega) (by omega) (by omega) (by omega) (by omega) (by omega) (by omega)
              · refine ev_iconst ?_
                exact ev_ret rfl (by decide) (by decide) ⟨_, rfl, by omega, by omega, g15524, k15524⟩
          · refine ev_lconst ?_
            refine ev_goto f161_22 ?_
            refine ev_ret rfl (by decide) (by decide) ?_
            show jEv _ _ _ _ _ _ _ (_, [(2, (r0 : Int)), (2, 1), (0, a2)], [(1, 0)], _, _, _)
            refine ev_ret rfl (by decide) (by decide) ?_
            show jEv _ _ _ _ _ _ _ (_, [(2, (r0 : Int)), (2, 1), (0, a2), (0, a3), (0, a4), (0, a5), (0, a2), (0, v15479), (0, 999), (0, a5), (9, 0), (9, 0), (9, 0)], [(1, 0), (1, (-100))], _, _, _)
            refine ev_lmul (r := 0) (by decide) ?_
            refine ev_lstore (L' := [(2, (r0 : Int)), (2, 1), (0, a2), (0, a3), (0, a4), (0, a5), (0, a2), (0, v15479), (0, 999), (0, a5), (1, 0), (9, 0), (9, 0)]) (Nat.le_of_ble_eq_true rfl) rfl ?_
            refine ev_iload rfl ?_
            refine ev_iconst ?_
            refine ev_icmplt f60_149 (fun c15527 => ?_) (fun c15527 => ?_)
            · refine ev_iconst ?_
              exact ev_ret rfl (by decide) (by decide) ⟨_, rfl, by omega, by omega, g, k0⟩
            · refine ev_aload_n rfl ?_
              refine ev_iload rfl ?_
              refine ev_iload rfl ?_
              refine ev_i2l ?_
              refine ev_lload rfl ?_
              refine ev_lmul (r := 0) (by unfold w64; omega) ?_
              refine ev_call (jcall_v (A := [(1, 0), (0, a2)]) (S' := []) (r := r0) rfl (g.qlt q0) (g.qtg q0) (Nat.le_of_ble_eq_true rfl)) (jOk_le (by decide) (s61 g q0 (by omega) (by omega) (by omega) (by omega))) (by decide) (by decide) (fun w15528 h15528 q15528 => ?_)
              obtain ⟨v15529, rfl, lv15529, uv15529, g15528, kk15528⟩ := q15528
              have k15528 := k0.tr kk15528 (by decide)
              show jEv _ _ _ _ _ _ _ (_, [(2, (r0 : Int)), (2, 1), (0, a2), (0, a3), (0, a4), (0, a5), (0, a2), (0, v15479), (0, 999), (0, a5), (1, 0), (9, 0), (9, 0)], [(0, v15529)], _, _, _)
              refine ev_ifne f60_151 (fun c15530 => ?_) (fun c15530 => ?_)
              · refine ev_iconst ?_
                refine ev_istore (L' := [(2, (r0 : Int)), (2, 1), (0, a2), (0, a3), (0, a4), (0, a5), (0, a2), (0, v15479), (0, 999), (0, a5), (1, 0), (9, 0), (0, 1)]) (Nat.le_of_ble_eq_true rfl) rfl ?_
                exact (s60_l q0 la2 ua2 la3 ua3 la4 ua4 la5 ua5 80) _ _ _ _ _ _ _ g15528 k15528 (by omega) (by omega) (by omega) (by omega) (by omega) (by omega) (by omega) (by omega) (by omega) (by omega) (by omega) (by omega) (by omega) (by omega) (by omega) (by omega) (by omega) (by omega) (by omega) (by omega) (by omega) (by omega)
              · refine ev_iconst ?_
                exact ev_ret rfl (by decide) (by decide) ⟨_, rfl, by omega, by omega, g15528, k15528⟩
    · refine ev_iload rfl ?_
      refine ev_iload rfl ?_
      refine g_isubG (fun v15531 ev15531 lv15531 uv15531 => ?_)
      refine ev_goto f60_72 ?_
      refine ev_in (d := 2) (a := 0) (b := 0) (cd' := c381_0) (m := 2) (L0 := [(0, a5), (0, v15531)]) (jcall_s (A := [(0, v15531), (0, a5)]) (S' := []) (by decide) rfl (Nat.le_of_ble_eq_true rfl)) (by decide) ml381 pp381 (Nat.le_of_ble_eq_true rfl) rfl (by decide) (by decide) ?_
      refine ev_iload_n rfl ?_
      refine ev_iload_n rfl ?_
      refine ev_icmpgt f381_9 (fun c15532 => ?_) (fun c15532 => ?_)
      · refine ev_iload_n rfl ?_
        refine ev_ret rfl (by decide) (by decide) ?_
        show jEv _ _ _ _ _ _ _ (_, [(2, (r0 : Int)), (2, 1), (0, a2), (0, a3), (0, a4), (0, a5), (0, a2), (0, v15479), (0, 999), (9, 0), (9, 0), (9, 0), (9, 0)], [(0, v15531)], _, _, _)
        refine ev_istore (L' := [(2, (r0 : Int)), (2, 1), (0, a2), (0, a3), (0, a4), (0, a5), (0, a2), (0, v15479), (0, 999), (0, v15531), (9, 0), (9, 0), (9, 0)]) (Nat.le_of_ble_eq_true rfl) rfl ?_
        refine ev_iload_n rfl ?_
        refine ev_iconst ?_
        refine ev_icmpne f60_86 (fun c15533 => absurd c15533 (by omega)) (fun c15533 => ?_)
        refine ev_iconst ?_
        refine ev_goto f60_87 ?_
        refine ev_iload rfl ?_
        refine ev_iconst ?_
        refine ev_icmpne f60_97 (fun c15534 => absurd c15534 (by omega)) (fun c15534 => ?_)
        refine ev_iconst ?_
        refine ev_goto f60_98 ?_
        refine ev_icmpne f60_115 (fun c15535 => absurd c15535 (by omega)) (fun c15535 => ?_)
        refine ev_ldc2_w ?_
        refine ev_aload_n rfl ?_
        refine ev_aload_n rfl ?_
        refine ev_iload rfl ?_
        refine ev_in (d := 2) (a := 0) (b := 0) (cd' := c58_0) (m := 3) (L0 := [(2, (r0 : Int)), (2, 1), (0, a2)]) (jcall_v (A := [(0, a2), (2, 1)]) (S' := [(1, 100)]) (r := r0) rfl (g.qlt q0) (g.qtg q0) (Nat.le_of_ble_eq_true rfl)) (by decide) ml58 pp58 (Nat.le_of_ble_eq_true rfl) rfl (by decide) (by decide) ?_
        refine ev_aload_n rfl ?_
        refine ev_aload_n rfl ?_
        refine g_qgetp g q0 (c := 8) (by decide) (by decide) ft4_8 ?_
        refine ev_iload_n rfl ?_
        refine g_qiald g q0 (c := 8) (by decide) (by decide) (by decide) (by omega) (by show a2 < m0; omega) rfl (fun v15536 ev15536 lv15536 uv15536 => ?_)
        refine ev_in (d := 1) (a := 0) (b := 0) (cd' := c161_0) (m := 2) (L0 := [(2, 1), (0, v15536)]) (jcall_v (A := [(0, v15536)]) (S' := []) (r := 1) rfl (g.lt ad1) (g.tg ad1) (Nat.le_of_ble_eq_true rfl)) (by decide) ml161 pp161 (Nat.le_of_ble_eq_true rfl) rfl (by decide) (by decide) ?_
        refine ev_iload_n rfl ?_
        refine ev_iflt f161_12 (fun c15537 => ?_) (fun c15537 => ?_)
        · refine ev_lconst ?_
          refine ev_goto f161_22 ?_
          refine ev_ret rfl (by decide) (by decide) ?_
          show jEv _ _ _ _ _ _ _ (_, [(2, (r0 : Int)), (2, 1), (0, a2)], [(1, 0)], _, _, _)
          refine ev_ret rfl (by decide) (by decide) ?_
          show jEv _ _ _ _ _ _ _ (_, [(2, (r0 : Int)), (2, 1), (0, a2), (0, a3), (0, a4), (0, a5), (0, a2), (0, v15479), (0, 999), (0, v15531), (9, 0), (9, 0), (9, 0)], [(1, 0), (1, 100)], _, _, _)
          refine ev_lmul (r := 0) (by decide) ?_
          refine ev_goto f60_126 ?_
          refine ev_lstore (L' := [(2, (r0 : Int)), (2, 1), (0, a2), (0, a3), (0, a4), (0, a5), (0, a2), (0, v15479), (0, 999), (0, v15531), (1, 0), (9, 0), (9, 0)]) (Nat.le_of_ble_eq_true rfl) rfl ?_
          refine ev_iload rfl ?_
          refine ev_iconst ?_
          refine ev_icmplt f60_149 (fun c15538 => ?_) (fun c15538 => ?_)
          · refine ev_iconst ?_
            exact ev_ret rfl (by decide) (by decide) ⟨_, rfl, by omega, by omega, g, k0⟩
          · refine ev_aload_n rfl ?_
            refine ev_iload rfl ?_
            refine ev_iload rfl ?_
            refine ev_i2l ?_
            refine ev_lload rfl ?_
            refine ev_lmul (r := 0) (by unfold w64; omega) ?_
            refine ev_call (jcall_v (A := [(1, 0), (0, a2)]) (S' := []) (r := r0) rfl (g.qlt q0) (g.qtg q0) (Nat.le_of_ble_eq_true rfl)) (jOk_le (by decide) (s61 g q0 (by omega) (by omega) (by omega) (by omega))) (by decide) (by decide) (fun w15539 h15539 q15539 => ?_)
            obtain ⟨v15540, rfl, lv15540, uv15540, g15539, kk15539⟩ := q15539
            have k15539 := k0.tr kk15539 (by decide)
            show jEv _ _ _ _ _ _ _ (_, [(2, (r0 : Int)), (2, 1), (0, a2), (0, a3), (0, a4), (0, a5), (0, a2), (0, v15479), (0, 999), (0, v15531), (1, 0), (9, 0), (9, 0)], [(0, v15540)], _, _, _)
            refine ev_ifne f60_151 (fun c15541 => ?_) (fun c15541 => ?_)
            · refine ev_iconst ?_
              refine ev_istore (L' := [(2, (r0 : Int)), (2, 1), (0, a2), (0, a3), (0, a4), (0, a5), (0, a2), (0, v15479), (0, 999), (0, v15531), (1, 0), (9, 0), (0, 1)]) (Nat.le_of_ble_eq_true rfl) rfl ?_
              exact (s60_l q0 la2 ua2 la3 ua3 la4 ua4 la5 ua5 80) _ _ _ _ _ _ _ g15539 k15539 (by omega) (by omega) (by omega) (by omega) (by omega) (by omega) (by omega) (by omega) (by omega) (by omega) (by omega) (by omega) (by omega) (by omega) (by omega) (by omega) (by omega) (by omega) (by omega) (by omega) (by omega) (by omega)
            · refine ev_iconst ?_
              exact ev_ret rfl (by decide) (by decide) ⟨_, rfl, by omega, by omega, g15539, k15539⟩
        · refine ev_iload_n rfl ?_
          refine ev_aload_n rfl ?_
          refine ev_in (d := 0) (a := 0) (b := 0) (cd' := c157_0) (m := 1) (L0 := [(2, 1)]) (jcall_v (A := []) (S' := [(0, v15536)]) (r := 1) rfl (g.lt ad1) (g.tg ad1) (Nat.le_of_ble_eq_true rfl)) (by decide) ml157 pp157 (Nat.le_of_ble_eq_true rfl) rfl (by decide) (by decide) ?_
          refine ev_iconst ?_
          refine ev_iconst ?_
          refine ev_aload_n rfl ?_
          obtain ⟨v15542, ev15542, lv15542, uv15542⟩ := g.rd ad1 (show 0 < 8 by decide) rf1_0
          refine g_getv (r := 1) (v := v15542) g ad1 (by decide) ft10_0 ev15542 ?_
          refine ev_imul (r := (2 * v15542)) (by unfold w32; omega) ?_
          refine g_ishlB (a' := 1) (a := 1) (b := 8) (hi := 256) (by omega) (by omega) (by omega) (by omega) (by decide) (by decide) (fun v15543 ev15543 lv15543 uv15543 => ?_)
          refine ev_ret rfl (by decide) (by decide) ?_
          show jEv _ _ _ _ _ _ _ (_, [(2, 1), (0, v15536)], [(0, v15543), (0, v15536)], _, _, _)
          refine ev_icmplt f161_16 (fun c15544 => ?_) (fun c15544 => ?_)
          · refine ev_aload_n rfl ?_
            refine g_getp (r := 1) (c := 6) g ad1 (by decide) (by decide) rf1_7 ft10_7 ?_
            refine ev_iload_n rfl ?_
            refine g_lald g ad6 rt6 (by omega) (by omega) (fun v15545 ev15545 lv15545 uv15545 => ?_)
            refine ev_ret rfl (by decide) (by decide) ?_
            show jEv _ _ _ _ _ _ _ (_, [(2, (r0 : Int)), (2, 1), (0, a2)], [(1, v15545)], _, _, _)
            refine ev_ret rfl (by decide) (by decide) ?_
            show jEv _ _ _ _ _ _ _ (_, [(2, (r0 : Int)), (2, 1), (0, a2), (0, a3), (0, a4), (0, a5), (0, a2), (0, v15479), (0, 999), (0, v15531), (9, 0), (9, 0), (9, 0)], [(1, v15545), (1, 100)], _, _, _)
            refine g_lmulG (fun v15546 ev15546 lv15546 uv15546 => ?_)
            refine ev_goto f60_126 ?_
            refine ev_lstore (L' := [(2, (r0 : Int)), (2, 1), (0, a2), (0, a3), (0, a4), (0, a5), (0, a2), (0, v15479), (0, 999), (0, v15531), (1, v15546), (9, 0), (9, 0)]) (Nat.le_of_ble_eq_true rfl) rfl ?_
            refine ev_iload rfl ?_
            refine ev_iconst ?_
            refine ev_icmplt f60_149 (fun c15547 => ?_) (fun c15547 => ?_)
            · refine ev_iconst ?_
              exact ev_ret rfl (by decide) (by decide) ⟨_, rfl, by omega, by omega, g, k0⟩
            · refine ev_aload_n rfl ?_
              refine ev_iload rfl ?_
              refine ev_iload rfl ?_
              refine ev_i2l ?_
              refine ev_lload rfl ?_
              refine g_lmulG (fun v15548 ev15548 lv15548 uv15548 => ?_)
              refine ev_call (jcall_v (A := [(1, v15548), (0, a2)]) (S' := []) (r := r0) rfl (g.qlt q0) (g.qtg q0) (Nat.le_of_ble_eq_true rfl)) (jOk_le (by decide) (s61 g q0 (by omega) (by omega) (by omega) (by omega))) (by decide) (by decide) (fun w15549 h15549 q15549 => ?_)
              obtain ⟨v15550, rfl, lv15550, uv15550, g15549, kk15549⟩ := q15549
              have k15549 := k0.tr kk15549 (by decide)
              show jEv _ _ _ _ _ _ _ (_, [(2, (r0 : Int)), (2, 1), (0, a2), (0, a3), (0, a4), (0, a5), (0, a2), (0, v15479), (0, 999), (0, v15531), (1, v15546), (9, 0), (9, 0)], [(0, v15550)], _, _, _)
              refine ev_ifne f60_151 (fun c15551 => ?_) (fun c15551 => ?_)
              · refine ev_iconst ?_
                refine ev_istore (L' := [(2, (r0 : Int)), (2, 1), (0, a2), (0, a3), (0, a4), (0, a5), (0, a2), (0, v15479), (0, 999), (0, v15531), (1, v15546), (9, 0), (0, 1)]) (Nat.le_of_ble_eq_true rfl) rfl ?_
                exact (s60_l q0 la2 ua2 la3 ua3 la4 ua4 la5 ua5 80) _ _ _ _ _ _ _ g15549 k15549 (by omega) (by omega) (by omega) (by omega) (by omega) (by omega) (by omega) (by omega) (by omega) (by omega) (by omega) (by omega) (by omega) (by omega) (by omega) (by omega) (by omega) (by omega) (by omega) (by omega) (by omega) (by omega)
              · refine ev_iconst ?_
                exact ev_ret rfl (by decide) (by decide) ⟨_, rfl, by omega, by omega, g15549, k15549⟩
          · refine ev_lconst ?_
            refine ev_goto f161_22 ?_
            refine ev_ret rfl (by decide) (by decide) ?_
            show jEv _ _ _ _ _ _ _ (_, [(2, (r0 : Int)), (2, 1), (0, a2)], [(1, 0)], _, _, _)
            refine ev_ret rfl (by decide) (by decide) ?_
            show jEv _ _ _ _ _ _ _ (_, [(2, (r0 : Int)), (2, 1), (0, a2), (0, a3), (0, a4), (0, a5), (0, a2), (0, v15479), (0, 999), (0, v15531), (9, 0), (9, 0), (9, 0)], [(1, 0), (1, 100)], _, _, _)
            refine ev_lmul (r := 0) (by decide) ?_
            refine ev_goto f60_126 ?_
            refine ev_lstore (L' := [(2, (r0 : Int)), (2, 1), (0, a2), (0, a3), (0, a4), (0, a5), (0, a2), (0, v15479), (0, 999), (0, v15531), (1, 0), (9, 0), (9, 0)]) (Nat.le_of_ble_eq_true rfl) rfl ?_
            refine ev_iload rfl ?_
            refine ev_iconst ?_
            refine ev_icmplt f60_149 (fun c15552 => ?_) (fun c15552 => ?_)
            · refine ev_iconst ?_
              exact ev_ret rfl (by decide) (by decide) ⟨_, rfl, by omega, by omega, g, k0⟩
            · refine ev_aload_n rfl ?_
              refine ev_iload rfl ?_
              refine ev_iload rfl ?_
              refine ev_i2l ?_
              refine ev_lload rfl ?_
              refine ev_lmul (r := 0) (by unfold w64; omega) ?_
              refine ev_call (jcall_v (A := [(1, 0), (0, a2)]) (S' := []) (r := r0) rfl (g.qlt q0) (g.qtg q0) (Nat.le_of_ble_eq_true rfl)) (jOk_le (by decide) (s61 g q0 (by omega) (by omega) (by omega) (by omega))) (by decide) (by decide) (fun w15553 h15553 q15553 => ?_)
              obtain ⟨v15554, rfl, lv15554, uv15554, g15553, kk15553⟩ := q15553
              have k15553 := k0.tr kk15553 (by decide)
              show jEv _ _ _ _ _ _ _ (_, [(2, (r0 : Int)), (2, 1), (0, a2), (0, a3), (0, a4), (0, a5), (0, a2), (0, v15479), (0, 999), (0, v15531), (1, 0), (9, 0), (9, 0)], [(0, v15554)], _, _, _)
              refine ev_ifne f60_151 (fun c15555 => ?_) (fun c15555 => ?_)
              · refine ev_iconst ?_
                refine ev_istore (L' := [(2, (r0 : Int)), (2, 1), (0, a2), (0, a3), (0, a4), (0, a5), (0, a2), (0, v15479), (0, 999), (0, v15531), (1, 0), (9, 0), (0, 1)]) (Nat.le_of_ble_eq_true rfl) rfl ?_
                exact (s60_l q0 la2 ua2 la3 ua3 la4 ua4 la5 ua5 80) _ _ _ _ _ _ _ g15553 k15553 (by omega) (by omega) (by omega) (by omega) (by omega) (by omega) (by omega) (by omega) (by omega) (by omega) (by omega) (by omega) (by omega) (by omega) (by omega) (by omega) (by omega) (by omega) (by omega) (by omega) (by omega) (by omega)
              · refine ev_iconst ?_
                exact ev_ret rfl (by decide) (by decide) ⟨_, rfl, by omega, by omega, g15553, k15553⟩
      · refine ev_iload_n rfl ?_
        refine ev_goto f381_10 ?_
        refine ev_ret rfl (by decide) (by decide) ?_
        show jEv _ _ _ _ _ _ _ (_, [(2, (r0 : Int)), (2, 1), (0, a2), (0, a3), (0, a4), (0, a5), (0, a2), (0, v15479), (0, 999), (9, 0), (9, 0), (9, 0), (9, 0)], [(0, a5)], _, _, _)
        refine ev_istore (L' := [(2, (r0 : Int)), (2, 1), (0, a2), (0, a3), (0, a4), (0, a5), (0, a2), (0, v15479), (0, 999), (0, a5), (9, 0), (9, 0), (9, 0)]) (Nat.le_of_ble_eq_true rfl) rfl ?_
        refine ev_iload_n rfl ?_
        refine ev_iconst ?_
        refine ev_icmpne f60_86 (fun c15556 => absurd c15556 (by omega)) (fun c15556 => ?_)
        refine ev_iconst ?_
        refine ev_goto f60_87 ?_
        refine ev_iload rfl ?_
        refine ev_iconst ?_
        refine ev_icmpne f60_97 (fun c15557 => absurd c15557 (by omega)) (fun c15557 => ?_)
        refine ev_iconst ?_
        refine ev_goto f60_98 ?_
        refine ev_icmpne f60_115 (fun c15558 => absurd c15558 (by omega)) (fun c15558 => ?_)
        refine ev_ldc2_w ?_
        refine ev_aload_n rfl ?_
        refine ev_aload_n rfl ?_
        refine ev_iload rfl ?_
        refine ev_in (d := 2) (a := 0) (b := 0) (cd' := c58_0) (m := 3) (L0 := [(2, (r0 : Int)), (2, 1), (0, a2)]) (jcall_v (A := [(0, a2), (2, 1)]) (S' := [(1, 100)]) (r := r0) rfl (g.qlt q0) (g.qtg q0) (Nat.le_of_ble_eq_true rfl)) (by decide) ml58 pp58 (Nat.le_of_ble_eq_true rfl) rfl (by decide) (by decide) ?_
        refine ev_aload_n rfl ?_
        refine ev_aload_n rfl ?_
        refine g_qgetp g q0 (c := 8) (by decide) (by decide) ft4_8 ?_
        refine ev_iload_n rfl ?_
        refine g_qiald g q0 (c := 8) (by decide) (by decide) (by decide) (by omega) (by show a2 < m0; omega) rfl (fun v15559 ev15559 lv15559 uv15559 => ?_)
        refine ev_in (d := 1) (a := 0) (b := 0) (cd' := c161_0) (m := 2) (L0 := [(2, 1), (0, v15559)]) (jcall_v (A := [(0, v15559)]) (S' := []) (r := 1) rfl (g.lt ad1) (g.tg ad1) (Nat.le_of_ble_eq_true rfl)) (by decide) ml161 pp161 (Nat.le_of_ble_eq_true rfl) rfl (by decide) (by decide) ?_
        refine ev_iload_n rfl ?_
        refine ev_iflt f161_12 (fun c15560 => ?_) (fun c15560 => ?_)
        · refine ev_lconst ?_
          refine ev_goto f161_22 ?_
          refine ev_ret rfl (by decide) (by decide) ?_
          show jEv _ _ _ _ _ _ _ (_, [(2, (r0 : Int)), (2, 1), (0, a2)], [(1, 0)], _, _, _)
          refine ev_ret rfl (by decide) (by decide) ?_
          show jEv _ _ _ _ _ _ _ (_, [(2, (r0 : Int)), (2, 1), (0, a2), (0, a3), (0, a4), (0, a5), (0, a2), (0, v15479), (0, 999), (0, a5), (9, 0), (9, 0), (9, 0)], [(1, 0), (1, 100)], _, _, _)
          refine ev_lmul (r := 0) (by decide) ?_
          refine ev_goto f60_126 ?_
          refine ev_lstore (L' := [(2, (r0 : Int)), (2, 1), (0, a2), (0, a3), (0, a4), (0, a5), (0, a2), (0, v15479), (0, 999), (0, a5), (1, 0), (9, 0), (9, 0)]) (Nat.le_of_ble_eq_true rfl) rfl ?_
          refine ev_iload rfl ?_
          refine ev_iconst ?_
          refine ev_icmplt f60_149 (fun c15561 => ?_) (fun c15561 => ?_)
          · refine ev_iconst ?_
            exact ev_ret rfl (by decide) (by decide) ⟨_, rfl, by omega, by omega, g, k0⟩
          · refine ev_aload_n rfl ?_
            refine ev_iload rfl ?_
            refine ev_iload rfl ?_
            refine ev_i2l ?_
            refine ev_lload rfl ?_
            refine ev_lmul (r := 0) (by unfold w64; omega) ?_
            refine ev_call (jcall_v (A := [(1, 0), (0, a2)]) (S' := []) (r := r0) rfl (g.qlt q0) (g.qtg q0) (Nat.le_of_ble_eq_true rfl)) (jOk_le (by decide) (s61 g q0 (by omega) (by omega) (by omega) (by omega))) (by decide) (by decide) (fun w15562 h15562 q15562 => ?_)
            obtain ⟨v15563, rfl, lv15563, uv15563, g15562, kk15562⟩ := q15562
            have k15562 := k0.tr kk15562 (by decide)
            show jEv _ _ _ _ _ _ _ (_, [(2, (r0 : Int)), (2, 1), (0, a2), (0, a3), (0, a4), (0, a5), (0, a2), (0, v15479), (0, 999), (0, a5), (1, 0), (9, 0), (9, 0)], [(0, v15563)], _, _, _)
            refine ev_ifne f60_151 (fun c15564 => ?_) (fun c15564 => ?_)
            · refine ev_iconst ?_
              refine ev_istore (L' := [(2, (r0 : Int)), (2, 1), (0, a2), (0, a3), (0, a4), (0, a5), (0, a2), (0, v15479), (0, 999), (0, a5), (1, 0), (9, 0), (0, 1)]) (Nat.le_of_ble_eq_true rfl) rfl ?_
              exact (s60_l q0 la2 ua2 la3 ua3 la4 ua4 la5 ua5 80) _ _ _ _ _ _ _ g15562 k15562 (by omega) (by omega) (by omega) (by omega) (by omega) (by omega) (by omega) (by omega) (by omega) (by omega) (by omega) (by omega) (by omega) (by omega) (by omega) (by omega) (by omega) (by omega) (by omega) (by omega) (by omega) (by omega)
            · refine ev_iconst ?_
              exact ev_ret rfl (by decide) (by decide) ⟨_, rfl, by omega, by omega, g15562, k15562⟩
        · refine ev_iload_n rfl ?_
          refine ev_aload_n rfl ?_
          refine ev_in (d := 0) (a := 0) (b := 0) (cd' := c157_0) (m := 1) (L0 := [(2, 1)]) (jcall_v (A := []) (S' := [(0, v15559)]) (r := 1) rfl (g.lt ad1) (g.tg ad1) (Nat.le_of_ble_eq_true rfl)) (by decide) ml157 pp157 (Nat.le_of_ble_eq_true rfl) rfl (by decide) (by decide) ?_
          refine ev_iconst ?_
          refine ev_iconst ?_
          refine ev_aload_n rfl ?_
          obtain ⟨v15565, ev15565, lv15565, uv15565⟩ := g.rd ad1 (show 0 < 8 by decide) rf1_0
          refine g_getv (r := 1) (v := v15565) g ad1 (by decide) ft10_0 ev15565 ?_
          refine ev_imul (r := (2 * v15565)) (by unfold w32; omega) ?_
          refine g_ishlB (a' := 1) (a := 1) (b := 8) (hi := 256) (by omega) (by omega) (by omega) (by omega) (by decide) (by decide) (fun v15566 ev15566 lv15566 uv15566 => ?_)
          refine ev_ret rfl (by decide) (by decide) ?_
          show jEv _ _ _ _ _ _ _ (_, [(2, 1), (0, v15559)], [(0, v15566), (0, v15559)], _, _, _)
          refine ev_icmplt f161_16 (fun c15567 => ?_) (fun c15567 => ?_)
          · refine ev_aload_n rfl ?_
            refine g_getp (r := 1) (c := 6) g ad1 (by decide) (by decide) rf1_7 ft10_7 ?_
            refine ev_iload_n rfl ?_
            refine g_lald g ad6 rt6 (by omega) (by omega) (fun v15568 ev15568 lv15568 uv15568 => ?_)
            refine ev_ret rfl (by decide) (by decide) ?_
            show jEv _ _ _ _ _ _ _ (_, [(2, (r0 : Int)), (2, 1), (0, a2)], [(1, v15568)], _, _, _)
            refine ev_ret rfl (by decide) (by decide) ?_
            show jEv _ _ _ _ _ _ _ (_, [(2, (r0 : Int)), (2, 1), (0, a2), (0, a3), (0, a4), (0, a5), (0, a2), (0, v15479), (0, 999), (0, a5), (9, 0), (9, 0), (9, 0)], [(1, v15568), (1, 100)], _, _, _)
            refine g_lmulG (fun v15569 ev15569 lv15569 uv15569 => ?_)
            refine ev_goto f60_126 ?_
            refine ev_lstore (L' := [(2, (r0 : Int)), (2, 1), (0, a2), (0, a3), (0, a4), (0, a5), (0, a2), (0, v15479), (0, 999), (0, a5), (1, v15569), (9, 0), (9, 0)]) (Nat.le_of_ble_eq_true rfl) rfl ?_
            refine ev_iload rfl ?_
            refine ev_iconst ?_
            refine ev_icmplt f60_149 (fun c15570 => ?_) (fun c15570 => ?_)
            · refine ev_iconst ?_
              exact ev_ret rfl (by decide) (by decide) ⟨_, rfl, by omega, by omega, g, k0⟩
            · refine ev_aload_n rfl ?_
              refine ev_iload rfl ?_
              refine ev_iload rfl ?_
              refine ev_i2l ?_
              refine ev_lload rfl ?_
              refine g_lmulG (fun v15571 ev15571 lv15571 uv15571 => ?_)
              refine ev_call (jcall_v (A := [(1, v15571), (0, a2)]) (S' := []) (r := r0) rfl (g.qlt q0) (g.qtg q0) (Nat.le_of_ble_eq_true rfl)) (jOk_le (by decide) (s61 g q0 (by omega) (by omega) (by omega) (by omega))) (by decide) (by decide) (fun w15572 h15572 q15572 => ?_)
              obtain ⟨v15573, rfl, lv15573, uv15573, g15572, kk15572⟩ := q15572
              have k15572 := k0.tr kk15572 (by decide)
              show jEv _ _ _ _ _ _ _ (_, [(2, (r0 : Int)), (2, 1), (0, a2), (0, a3), (0, a4), (0, a5), (0, a2), (0, v15479), (0, 999), (0, a5), (1, v15569), (9, 0), (9, 0)], [(0, v15573)], _, _, _)
              refine ev_ifne f60_151 (fun c15574 => ?_) (fun c15574 => ?_)
              · refine ev_iconst ?_
                refine ev_istore (L' := [(2, (r0 : Int)), (2, 1), (0, a2), (0, a3), (0, a4), (0, a5), (0, a2), (0, v15479), (0, 999), (0, a5), (1, v15569), (9, 0), (0, 1)]) (Nat.le_of_ble_eq_true rfl) rfl ?_
                exact (s60_l q0 la2 ua2 la3 ua3 la4 ua4 la5 ua5 80) _ _ _ _ _ _ _ g15572 k15572 (by omega) (by omega) (by omega) (by omega) (by omega) (by omega) (by omega) (by omega) (by omega) (by omega) (by omega) (by omega) (by omega) (by omega) (by omega) (by omega) (by omega) (by omega) (by omega) (by omega) (by omega) (by omega)
              · refine ev_iconst ?_
                exact ev_ret rfl (by decide) (by decide) ⟨_, rfl, by omega, by omega, g15572, k15572⟩
          · refine ev_lconst ?_
            refine ev_goto f161_22 ?_
            refine ev_ret rfl (by decide) (by decide) ?_
            show jEv _ _ _ _ _ _ _ (_, [(2, (r0 : Int)), (2, 1), (0, a2)], [(1, 0)], _, _, _)
            refine ev_ret rfl (by decide) (by decide) ?_
            show jEv _ _ _ _ _ _ _ (_, [(2, (r0 : Int)), (2, 1), (0, a2), (0, a3), (0, a4), (0, a5), (0, a2), (0, v15479), (0, 999), (0, a5), (9, 0), (9, 0), (9, 0)], [(1, 0), (1, 100)], _, _, _)
            refine ev_lmul (r := 0) (by decide) ?_
            refine ev_goto f60_126 ?_
            refine ev_lstore (L' := [(2, (r0 : Int)), (2, 1), (0, a2), (0, a3), (0, a4), (0, a5), (0, a2), (0, v15479), (0, 999), (0, a5), (1, 0), (9, 0), (9, 0)]) (Nat.le_of_ble_eq_true rfl) rfl ?_
            refine ev_iload rfl ?_
            refine ev_iconst ?_
            refine ev_icmplt f60_149 (fun c15575 => ?_) (fun c15575 => ?_)
            · refine ev_iconst ?_
              exact ev_ret rfl (by decide) (by decide) ⟨_, rfl, by omega, by omega, g, k0⟩
            · refine ev_aload_n rfl ?_
              refine ev_iload rfl ?_
              refine ev_iload rfl ?_
              refine ev_i2l ?_
              refine ev_lload rfl ?_
              refine ev_lmul (r := 0) (by unfold w64; omega) ?_
              refine ev_call (jcall_v (A := [(1, 0), (0, a2)]) (S' := []) (r := r0) rfl (g.qlt q0) (g.qtg q0) (Nat.le_of_ble_eq_true rfl)) (jOk_le (by decide) (s61 g q0 (by omega) (by omega) (by omega) (by omega))) (by decide) (by decide) (fun w15576 h15576 q15576 => ?_)
              obtain ⟨v15577, rfl, lv15577, uv15577, g15576, kk15576⟩ := q15576
              have k15576 := k0.tr kk15576 (by decide)
              show jEv _ _ _ _ _ _ _ (_, [(2, (r0 : Int)), (2, 1), (0, a2), (0, a3), (0, a4), (0, a5), (0, a2), (0, v15479), (0, 999), (0, a5), (1, 0), (9, 0), (9, 0)], [(0, v15577)], _, _, _)
              refine ev_ifne f60_151 (fun c15578 => ?_) (fun c15578 => ?_)
              · refine ev_iconst ?_
                refine ev_istore (L' := [(2, (r0 : Int)), (2, 1), (0, a2), (0, a3), (0, a4), (0, a5), (0, a2), (0, v15479), (0, 999), (0, a5), (1, 0), (9, 0), (0, 1)]) (Nat.le_of_ble_eq_true rfl) rfl ?_
                exact (s60_l q0 la2 ua2 la3 ua3 la4 ua4 la5 ua5 80) _ _ _ _ _ _ _ g15576 k15576 (by omega) (by omega) (by omega) (by omega) (by omega) (by omega) (by omega) (by omega) (by omega) (by omega) (by omega) (by omega) (by omega) (by omega) (by omega) (by omega) (by omega) (by omega) (by omega) (by omega) (by omega) (by omega)
              · refine ev_iconst ?_
                exact ev_ret rfl (by decide) (by decide) ⟨_, rfl, by omega, by omega, g15576, k15576⟩
/-! 64 take -/
set_option maxHeartbeats 4000000 in
theorem s64_l {G : GH} {h : JH} {a1 : Int} (la1 : 1 ≤ a1) (ua1 : a1 ≤ 4) {a2 : Int} (la2 : (-2147483648) ≤ a2) (ua2 : a2 ≤ 2147483647) : ∀ N : Nat, (∀ (h1 : JH) (x3 : Int), Gd G h1 → Kp [(7, 1), (8, 0)] h h1 → 1 ≤ a1 → a1 ≤ 4 → (-2147483648) ≤ a2 → a2 ≤ 2147483647 → 0 ≤ x3 → x3 ≤ 4 → ((-x3) + 4) < N → jEv (jOk 0) none (fun _ => 0) c64_0 0 0 (PI G [(7, 1), (8, 0)] h 0 0 200) (c64_2, [(2, 7), (0, a1), (0, a2), (0, x3)], [], h1, 0, 0)) := by
  intro N
  induction N with
  | zero => exact fun h1 x3 g1 k1 b0 b1 b2 b3 b4 b5 hm => absurd hm (by omega)
  | succ N ih =>
    show _
    intro h1 x3 g1 k1 b0 b1 b2 b3 b4 b5 hm
    refine ev_iload_n rfl ?_
    refine ev_iload_n rfl ?_
    refine ev_icmpge f64_49 (fun c15625 => ?_) (fun c15625 => ?_)
    · refine ev_aload_n rfl ?_
      obtain ⟨v15626, ev15626, lv15626, uv15626⟩ := g1.rd ad7 (show 0 < 15 by decide) rf7_0
      refine g_getv (r := 7) (v := v15626) g1 ad7 (by decide) ft5_0 ev15626 ?_
      exact ev_ret rfl (by decide) (by decide) ⟨_, rfl, by omega, by omega, g1, k1⟩
    · refine ev_aload_n rfl ?_
      obtain ⟨v15627, ev15627, lv15627, uv15627⟩ := g1.rd ad7 (show 0 < 15 by decide) rf7_0
      refine g_getv (r := 7) (v := v15627) g1 ad7 (by decide) ft5_0 ev15627 ?_
      refine ev_sipush ?_
      refine ev_icmpge f64_49 (fun c15628 => ?_) (fun c15628 => ?_)
      · refine ev_aload_n rfl ?_
        refine g_getv (r := 7) (v := v15627) g1 ad7 (by decide) ft5_0 (ev15627) ?_
        exact ev_ret rfl (by decide) (by decide) ⟨_, rfl, by omega, by omega, g1, k1⟩
      · refine ev_aload_n rfl ?_
        refine g_getp (r := 7) (c := 8) g1 ad7 (by decide) (by decide) rf7_5 ft5_5 ?_
        refine ev_aload_n rfl ?_
        refine g_getv (r := 7) (v := v15627) g1 ad7 (by decide) ft5_0 (ev15627) ?_
        refine ev_iload_n rfl ?_
        refine ev_bipush ?_
        refine ev_iload_n rfl ?_
        refine ev_imul (r := (8 * x3)) (by unfold w32; omega) ?_
        refine g_ishrG (fun v15629 ev15629 lv15629 uv15629 => ?_)
        refine g_i2bG (fun v15630 ev15630 lv15630 uv15630 => ?_)
        refine g_bast (w := v15630) g1 ad8 rt8 (fun _ => rfl) (by omega) (by omega) (by unfold w8; omega) (by omega) (by omega) (fun h15631 e15631 g15631 => ?_)
        have k15631 := k1.wr e15631 rfl
        refine ev_aload_n rfl ?_
        refine ev_dup (by decide) ?_
        refine g_getv (r := 7) (v := v15627) g15631 ad7 (by decide) ft5_0 (((jw_ne e15631 (Or.inl (by decide))).trans ev15627)) ?_
        refine ev_iconst ?_
        refine ev_iadd (r := (v15627 + 1)) (by unfold w32; omega) ?_
        refine g_putf (r := 7) g15631 ad7 (by decide) ft5_0 (by decide) (fun e => absurd e nz5_0) rf7_0 (by decide) (by omega) (by omega) (fun h15632 e15632 g15632 => ?_)
        have k15632 := k15631.wr e15632 rfl
        refine ev_iinc (w := (x3 + 1)) (L' := [(2, 7), (0, a1), (0, a2), (0, (x3 + 1))]) rfl (by unfold w32; omega) rfl ?_
        refine ev_goto f64_2 ?_
        exact ih _ _ g15632 k15632 (by omega) (by omega) (by omega) (by omega) (by omega) (by omega) (by omega)
set_option maxHeartbeats 4000000 in
theorem s64 {G : GH} {h : JH} (g : Gd G h) {a1 : Int} (la1 : 1 ≤ a1) (ua1 : a1 ≤ 4) {a2 : Int} (la2 : (-2147483648) ≤ a2) (ua2 : a2 ≤ 2147483647) : jOk 1 0 0 64 [(2, 7), (0, a1), (0, a2)] h (PI G [(7, 1), (8, 0)] h 0 0 200) := by
  refine ⟨by decide, by rw [ml64]; exact Nat.le_of_ble_eq_true rfl, ?_⟩
  rw [ml64, pp64]
  show jEv _ none _ c64_0 0 0 _ (c64_0, [(2, 7), (0, a1), (0, a2), (9, 0)], [], h, 0, 0)
  have k0 := Kp.rf [(7, 1), (8, 0)] h
  refine ev_iconst ?_
  refine ev_istore_n (L' := [(2, 7), (0, a1), (0, a2), (0, 0)]) (Nat.le_of_ble_eq_true rfl) rfl ?_
  exact (s64_l la1 ua1 la2 ua2 10) _ _ g k0 (by omega) (by omega) (by omega) (by omega) (by omega) (by omega) (by omega)
/-! 71 pass -/
set_option maxHeartbeats 4000000 in
theorem s71 {G : GH} {h : JH} (g : Gd G h) {a1 : Int} (la1 : 0 ≤ a1) (ua1 : a1 ≤ 255) {w0 : Int} (ew0 : h.2.2 7 1 = w0) (lw0 : (-1) ≤ w0) (uw0 : w0 ≤ 200) : jOk 2 0 0 71 [(2, 7), (0, a1)] h (fun v h' => ∃ F : Int, v = none ∧ Gd G h' ∧ Kp [(7, 2), (7, 3)] h h' ∧ h'.2.2 7 1 = F ∧ ((-F) + w0) ≤ 0) := by
  refine ⟨by decide, by rw [ml71]; exact Nat.le_of_ble_eq_true rfl, ?_⟩
  rw [ml71, pp71]
  show jEv _ none _ c71_0 0 0 _ (c71_0, [(2, 7), (0, a1)], [], h, 0, 0)
  have k0 := Kp.rf [(7, 2), (7, 3)] h
  refine ev_aload_n rfl ?_
  refine g_getv (r := 7) (v := w0) g ad7 (by decide) ft5_1 (ew0) ?_
  refine ev_iflt f71_8 (fun c15659 => ?_) (fun c15659 => ?_)
  · refine ev_aload_n rfl ?_
    refine ev_in (d := 0) (a := 0) (b := 0) (cd' := c68_0) (m := 1) (L0 := [(2, 7)]) (jcall_v (A := []) (S' := []) (r := 7) rfl (g.lt ad7) (g.tg ad7) (Nat.le_of_ble_eq_true rfl)) (by decide) ml68 pp68 (Nat.le_of_ble_eq_true rfl) rfl (by decide) (by decide) ?_
    refine ev_aload_n rfl ?_
    obtain ⟨v15660, ev15660, lv15660, uv15660⟩ := g.rd ad7 (show 2 < 15 by decide) rf7_2
    refine g_getv (r := 7) (v := v15660) g ad7 (by decide) ft5_2 ev15660 ?_
    refine ev_aload_n rfl ?_
    obtain ⟨v15661, ev15661, lv15661, uv15661⟩ := g.rd ad7 (show 0 < 15 by decide) rf7_0
    refine g_getv (r := 7) (v := v15661) g ad7 (by decide) ft5_0 ev15661 ?_
    refine ev_icmpge f68_27 (fun c15662 => ?_) (fun c15662 => ?_)
    · refine ev_iconst ?_
      refine ev_ret rfl (by decide) (by decide) ?_
      show jEv _ _ _ _ _ _ _ (_, [(2, 7), (0, a1)], [(0, (-1))], _, _, _)
      refine ev_iload_n rfl ?_
      refine ev_icmpne f71_29 (fun c15663 => ?_) (fun c15663 => absurd c15663 (by omega))
      refine ev_aload_n rfl ?_
      refine ev_in (d := 0) (a := 0) (b := 0) (cd' := c70_0) (m := 1) (L0 := [(2, 7)]) (jcall_v (A := []) (S' := []) (r := 7) rfl (g.lt ad7) (g.tg ad7) (Nat.le_of_ble_eq_true rfl)) (by decide) ml70 pp70 (Nat.le_of_ble_eq_true rfl) rfl (by decide) (by decide) ?_
      refine ev_aload_n rfl ?_
      refine g_getv (r := 7) (v := w0) g ad7 (by decide) ft5_1 (ew0) ?_
      refine ev_ifge f70_15 (fun c15664 => absurd c15664 (by omega)) (fun c15664 => ?_)
      refine ev_aload_n rfl ?_
      refine ev_aload_n rfl ?_
      refine g_getv (r := 7) (v := v15660) g ad7 (by decide) ft5_2 (ev15660) ?_
      refine g_putf (r := 7) g ad7 (by decide) ft5_1 (by decide) (fun e => absurd e nz5_1) rf7_1 (by decide) (by omega) (by omega) (fun h15665 e15665 g15665 => ?_)
      have k15665 := k0.wr e15665 rfl
      refine ev_ret rfl (by decide) (by decide) ?_
      show jEv _ _ _ _ _ _ _ (_, [(2, 7), (0, a1)], [], _, _, _)
      exact ev_ret rfl (by decide) (by decide) ⟨_, rfl, g15665, k15665, ((jw_eq e15665)), by omega⟩
    · refine ev_aload_n rfl ?_
      refine g_getp (r := 7) (c := 8) g ad7 (by decide) (by decide) rf7_5 ft5_5 ?_
      refine ev_aload_n rfl ?_
      refine g_getv (r := 7) (v := v15660) g ad7 (by decide) ft5_2 (ev15660) ?_
      refine g_bald g ad8 rt8 (by omega) (by omega) (fun v15666 ev15666 lv15666 uv15666 => ?_)
      refine ev_sipush ?_
      refine g_iandB (b := 255) (by omega) (by omega) (by decide) (fun v15667 ev15667 lv15667 uv15667 => ?_)
      refine ev_goto f68_28 ?_
      refine ev_ret rfl (by decide) (by decide) ?_
      show jEv _ _ _ _ _ _ _ (_, [(2, 7), (0, a1)], [(0, v15667)], _, _, _)
      refine ev_iload_n rfl ?_
      refine ev_icmpne f71_29 (fun c15668 => ?_) (fun c15668 => ?_)
      · refine ev_aload_n rfl ?_
        refine ev_in (d := 0) (a := 0) (b := 0) (cd' := c70_0) (m := 1) (L0 := [(2, 7)]) (jcall_v (A := []) (S' := []) (r := 7) rfl (g.lt ad7) (g.tg ad7) (Nat.le_of_ble_eq_true rfl)) (by decide) ml70 pp70 (Nat.le_of_ble_eq_true rfl) rfl (by decide) (by decide) ?_
        refine ev_aload_n rfl ?_
        refine g_getv (r := 7) (v := w0) g ad7 (by decide) ft5_1 (ew0) ?_
        refine ev_ifge f70_15 (fun c15669 => absurd c15669 (by omega)) (fun c15669 => ?_)
        refine ev_aload_n rfl ?_
        refine ev_aload_n rfl ?_
        refine g_getv (r := 7) (v := v15660) g ad7 (by decide) ft5_2 (ev15660) ?_
        refine g_putf (r := 7) g ad7 (by decide) ft5_1 (by decide) (fun e => absurd e nz5_1) rf7_1 (by decide) (by omega) (by omega) (fun h15670 e15670 g15670 => ?_)
        have k15670 := k0.wr e15670 rfl
        refine ev_ret rfl (by decide) (by decide) ?_
        show jEv _ _ _ _ _ _ _ (_, [(2, 7), (0, a1)], [], _, _, _)
        exact ev_ret rfl (by decide) (by decide) ⟨_, rfl, g15670, k15670, ((jw_eq e15670)), by omega⟩
      · refine ev_aload_n rfl ?_
        refine ev_dup (by decide) ?_
        refine g_getv (r := 7) (v := v15660) g ad7 (by decide) ft5_2 (ev15660) ?_
        refine ev_iconst ?_
        refine ev_iadd (r := (v15660 + 1)) (by unfold w32; omega) ?_
        refine g_putf (r := 7) g ad7 (by decide) ft5_2 (by decide) (fun e => absurd e nz5_2) rf7_2 (by decide) (by omega) (by omega) (fun h15671 e15671 g15671 => ?_)
        have k15671 := k0.wr e15671 rfl
        refine ev_goto f71_33 ?_
        exact ev_ret rfl (by decide) (by decide) ⟨_, rfl, g15671, k15671, (((jw_ne e15671 (Or.inr (by decide))).trans ew0)), by omega⟩
  · exact ev_ret rfl (by decide) (by decide) ⟨_, rfl, g, k0, (ew0), by omega⟩
/-! 72 passOpening -/
set_option maxHeartbeats 4000000 in
theorem s72 {G : GH} {h : JH} (g : Gd G h) {a1 : Int} (la1 : 0 ≤ a1) (ua1 : a1 ≤ 13) {w0 : Int} (ew0 : h.2.2 7 1 = w0) (lw0 : (-1) ≤ w0) (uw0 : w0 ≤ 200) : jOk 3 0 0 72 [(2, 7), (0, a1)] h (fun v h' => ∃ F : Int, v = none ∧ Gd G h' ∧ Kp [(7, 2), (7, 3)] h h' ∧ h'.2.2 7 1 = F ∧ ((-F) + w0) ≤ 0) := by
  refine ⟨by decide, by rw [ml72]; exact Nat.le_of_ble_eq_true rfl, ?_⟩
  rw [ml72, pp72]
  show jEv _ none _ c72_0 0 0 _ (c72_0, [(2, 7), (0, a1)], [], h, 0, 0)
  have k0 := Kp.rf [(7, 2), (7, 3)] h
  refine ev_iload_n rfl ?_
  refine ev_bipush ?_
  refine ev_icmplt f72_10 (fun c15692 => ?_) (fun c15692 => ?_)
  · refine ev_aload_n rfl ?_
    refine ev_bipush ?_
    refine ev_call (jcall_v (A := [(0, 40)]) (S' := []) (r := 7) rfl (g.lt ad7) (g.tg ad7) (Nat.le_of_ble_eq_true rfl)) (jOk_le (by decide) (s71 g (by omega) (by omega) (ew0) (by omega) (by omega))) (by decide) (by decide) (fun w15693 h15693 q15693 => ?_)
    obtain ⟨v15694, rfl, g15693, kk15693, ev15694, p15693_0⟩ := q15693
    have bv15694 := g15693.rg ad7 (i := 1) (by decide) rf7_1
    rw [ev15694] at bv15694
    have k15693 := k0.tr kk15693 (by decide)
    show jEv _ _ _ _ _ _ _ (_, [(2, 7), (0, a1)], [], _, _, _)
    exact ev_ret rfl (by decide) (by decide) ⟨_, rfl, g15693, k15693, (ev15694), by omega⟩
  · refine ev_aload_n rfl ?_
    refine ev_in (d := 1) (a := 0) (b := 0) (cd' := c70_0) (m := 1) (L0 := [(2, 7)]) (jcall_v (A := []) (S' := []) (r := 7) rfl (g.lt ad7) (g.tg ad7) (Nat.le_of_ble_eq_true rfl)) (by decide) ml70 pp70 (Nat.le_of_ble_eq_true rfl) rfl (by decide) (by decide) ?_
    refine ev_aload_n rfl ?_
    refine g_getv (r := 7) (v := w0) g ad7 (by decide) ft5_1 (ew0) ?_
    refine ev_ifge f70_15 (fun c15695 => ?_) (fun c15695 => ?_)
    · refine ev_ret rfl (by decide) (by decide) ?_
      show jEv _ _ _ _ _ _ _ (_, [(2, 7), (0, a1)], [], _, _, _)
      refine ev_aload_n rfl ?_
      refine ev_bipush ?_
      refine ev_call (jcall_v (A := [(0, 40)]) (S' := []) (r := 7) rfl (g.lt ad7) (g.tg ad7) (Nat.le_of_ble_eq_true rfl)) (jOk_le (by decide) (s71 g (by omega) (by omega) (ew0) (by omega) (by omega))) (by decide) (by decide) (fun w15696 h15696 q15696 => ?_)
      obtain ⟨v15697, rfl, g15696, kk15696, ev15697, p15696_0⟩ := q15696
      have bv15697 := g15696.rg ad7 (i := 1) (by decide) rf7_1
      rw [ev15697] at bv15697
      have k15696 := k0.tr kk15696 (by decide)
      show jEv _ _ _ _ _ _ _ (_, [(2, 7), (0, a1)], [], _, _, _)
      exact ev_ret rfl (by decide) (by decide) ⟨_, rfl, g15696, k15696, (ev15697), by omega⟩
    · refine ev_aload_n rfl ?_
      refine ev_aload_n rfl ?_
      obtain ⟨v15698, ev15698, lv15698, uv15698⟩ := g.rd ad7 (show 2 < 15 by decide) rf7_2
      refine g_getv (r := 7) (v := v15698) g ad7 (by decide) ft5_2 ev15698 ?_
      refine g_putf (r := 7) g ad7 (by decide) ft5_1 (by decide) (fun e => absurd e nz5_1) rf7_1 (by decide) (by omega) (by omega) (fun h15699 e15699 g15699 => ?_)
      have k15699 := k0.wr e15699 rfl
      refine ev_ret rfl (by decide) (by decide) ?_
      show jEv _ _ _ _ _ _ _ (_, [(2, 7), (0, a1)], [], _, _, _)
      refine ev_aload_n rfl ?_
      refine ev_bipush ?_
      refine ev_call (jcall_v (A := [(0, 40)]) (S' := []) (r := 7) rfl (g15699.lt ad7) (g15699.tg ad7) (Nat.le_of_ble_eq_true rfl)) (jOk_le (by decide) (s71 g15699 (by omega) (by omega) ((jw_eq e15699)) (by omega) (by omega))) (by decide) (by decide) (fun w15700 h15700 q15700 => ?_)
      obtain ⟨v15701, rfl, g15700, kk15700, ev15701, p15700_0⟩ := q15700
      have bv15701 := g15700.rg ad7 (i := 1) (by decide) rf7_1
      rw [ev15701] at bv15701
      have k15700 := k15699.tr kk15700 (by decide)
      show jEv _ _ _ _ _ _ _ (_, [(2, 7), (0, a1)], [], _, _, _)
      exact ev_ret rfl (by decide) (by decide) ⟨_, rfl, g15700, k15700, (ev15701), by omega⟩
