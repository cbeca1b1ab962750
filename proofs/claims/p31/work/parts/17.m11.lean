/-! 345 holds -/
set_option maxHeartbeats 4000000 in
theorem s345_l {G : GH} {h : JH} {a1 : Int} (la1 : (-2147483648) ≤ a1) (ua1 : a1 ≤ 2147483647) {a2 : Int} (la2 : (-2147483648) ≤ a2) (ua2 : a2 ≤ 2147483647) : ∀ N : Nat, (∀ (h1 : JH) (x3 x4 : Int) (j5 : AV), Gd G h1 → Kp [] h h1 → 0 ≤ a1 → a1 ≤ 99 → 0 ≤ a2 → a2 ≤ 2 → (-2147483648) ≤ x3 → x3 ≤ 2147483647 → 0 ≤ x4 → x4 ≤ 64 → ((-34) * x4 + 2193) < N → jEv (jOk 3) none (fun _ => 0) c345_0 0 0 (PI G [] h 0 (-2147483648) 2147483647) (c345_43, [(2, 42), (0, a1), (0, a2), (0, x3), (0, x4), j5], [], h1, 0, 0)) ∧ (∀ (h1 : JH) (x3 x4 x5 : Int), Gd G h1 → Kp [] h h1 → 0 ≤ a1 → a1 ≤ 99 → 0 ≤ a2 → a2 ≤ 2 → (-2147483648) ≤ x3 → x3 ≤ 2147483647 → 0 ≤ x4 → x4 ≤ 63 → 0 ≤ x5 → x5 ≤ 16 → ((-34) * x4 + (-x5) + 2192) < N → jEv (jOk 3) none (fun _ => 0) c345_0 0 0 (PI G [] h 0 (-2147483648) 2147483647) (c345_59, [(2, 42), (0, a1), (0, a2), (0, x3), (0, x4), (0, x5)], [], h1, 0, 0)) := by
  intro N
  induction N with
  | zero => exact ⟨fun h1 x3 x4 j5 g1 k1 b0 b1 b2 b3 b4 b5 b6 b7 hm => absurd hm (by omega), fun h1 x3 x4 x5 g1 k1 b0 b1 b2 b3 b4 b5 b6 b7 b8 b9 hm => absurd hm (by omega)⟩
  | succ N ih =>
    refine ⟨?_, ?_⟩
    · intro h1 x3 x4 j5 g1 k1 b0 b1 b2 b3 b4 b5 b6 b7 hm
      refine ev_iload rfl ?_
      refine ev_iconst ?_
      refine ev_iconst ?_
      refine ev_aload_n rfl ?_
      obtain ⟨v48951, ev48951, lv48951, uv48951⟩ := g1.rd ad42 (show 47 < 66 by decide) rf42_47
      refine g_getv (r := 42) (v := v48951) g1 ad42 (by decide) ft12_47 ev48951 ?_
      refine ev_imul (r := (2 * v48951)) (by unfold w32; omega) ?_
      refine g_ishlB (a' := 1) (a := 1) (b := 6) (hi := 64) (by omega) (by omega) (by omega) (by omega) (by decide) (by decide) (fun v48952 ev48952 lv48952 uv48952 => ?_)
      refine ev_icmpge f345_124 (fun c48953 => ?_) (fun c48953 => ?_)
      · refine ev_iload_n rfl ?_
        refine ev_ifne f345_132 (fun c48954 => ?_) (fun c48954 => ?_)
        · refine ev_bipush ?_
          exact ev_ret rfl (by decide) (by decide) ⟨_, rfl, by omega, by omega, g1, k1⟩
        · refine ev_iload_n rfl ?_
          refine ev_goto f345_134 ?_
          exact ev_ret rfl (by decide) (by decide) ⟨_, rfl, by omega, by omega, g1, k1⟩
      · refine ev_iconst ?_
        refine ev_istore (L' := [(2, 42), (0, a1), (0, a2), (0, x3), (0, x4), (0, 0)]) (Nat.le_of_ble_eq_true rfl) rfl ?_
        exact ih.2 _ _ _ _ g1 k1 (by omega) (by omega) (by omega) (by omega) (by omega) (by omega) (by omega) (by omega) (by omega) (by omega) (by omega)
    · intro h1 x3 x4 x5 g1 k1 b0 b1 b2 b3 b4 b5 b6 b7 b8 b9 hm
      refine ev_iload rfl ?_
      refine ev_iconst ?_
      refine ev_aload_n rfl ?_
      obtain ⟨v48955, ev48955, lv48955, uv48955⟩ := g1.rd ad42 (show 51 < 66 by decide) rf42_51
      refine g_getv (r := 42) (v := v48955) g1 ad42 (by decide) ft12_51 ev48955 ?_
      refine g_ishlB (a' := 1) (a := 1) (b := 4) (hi := 16) (by omega) (by omega) (by omega) (by omega) (by decide) (by decide) (fun v48956 ev48956 lv48956 uv48956 => ?_)
      refine ev_icmpge f345_118 (fun c48957 => ?_) (fun c48957 => ?_)
      · refine ev_iinc (w := (x4 + 1)) (L' := [(2, 42), (0, a1), (0, a2), (0, x3), (0, (x4 + 1)), (0, x5)]) rfl (by unfold w32; omega) rfl ?_
        refine ev_goto f345_43 ?_
        exact ih.1 _ _ _ _ g1 k1 (by omega) (by omega) (by omega) (by omega) (by omega) (by omega) (by omega) (by omega) (by omega)
      · refine ev_aload_n rfl ?_
        refine ev_iload rfl ?_
        refine ev_iload rfl ?_
        refine ev_iload_n rfl ?_
        refine ev_call (jcall_v (A := [(0, a1), (0, x5), (0, x4)]) (S' := []) (r := 42) rfl (g1.lt ad42) (g1.tg ad42) (Nat.le_of_ble_eq_true rfl)) (jOk_le (by decide) (s343 g1 (by omega) (by omega) (by omega) (by omega) (by omega) (by omega))) (by decide) (by decide) (fun w48958 h48958 q48958 => ?_)
        obtain ⟨v48959, rfl, lv48959, uv48959, g48958, kk48958⟩ := q48958
        have k48958 := k1.tr kk48958 (by decide)
        show jEv _ _ _ _ _ _ _ (_, [(2, 42), (0, a1), (0, a2), (0, x3), (0, x4), (0, x5)], [(0, v48959)], _, _, _)
        refine ev_ifne f345_85 (fun c48960 => ?_) (fun c48960 => ?_)
        · refine ev_iload_n rfl ?_
          refine ev_ifle f345_109 (fun c48961 => ?_) (fun c48961 => ?_)
          · refine g_iincG (f := fun w => [(2, 42), (0, a1), (0, a2), (0, w), (0, x4), (0, x5)]) rfl (fun _ => rfl) (fun v48962 ev48962 lv48962 uv48962 => ?_)
            refine ev_iinc (w := (x5 + 1)) (L' := [(2, 42), (0, a1), (0, a2), (0, v48962), (0, x4), (0, (x5 + 1))]) rfl (by unfold w32; omega) rfl ?_
            refine ev_goto f345_59 ?_
            exact ih.2 _ _ _ _ g48958 k48958 (by omega) (by omega) (by omega) (by omega) (by omega) (by omega) (by omega) (by omega) (by omega) (by omega) (by omega)
          · refine ev_iload_n rfl ?_
            refine ev_iconst ?_
            refine ev_icmpne f345_106 (fun c48963 => ?_) (fun c48963 => ?_)
            · refine ev_iload rfl ?_
              exact ev_ret rfl (by decide) (by decide) ⟨_, rfl, by omega, by omega, g48958, k48958⟩
            · refine ev_iload rfl ?_
              refine ev_aload_n rfl ?_
              obtain ⟨v48964, ev48964, lv48964, uv48964⟩ := g48958.rd ad42 (show 47 < 66 by decide) rf42_47
              refine g_getv (r := 42) (v := v48964) g48958 ad42 (by decide) ft12_47 ev48964 ?_
              refine ev_call (jcall_s (A := [(0, v48964), (0, x4)]) (S' := []) (by decide) rfl (Nat.le_of_ble_eq_true rfl)) (jOk_le (by decide) (s344 g48958 (by omega) (by omega) (by omega) (by omega))) (by decide) (by decide) (fun w48965 h48965 q48965 => ?_)
              obtain ⟨v48966, rfl, lv48966, uv48966, g48965, kk48965⟩ := q48965
              have k48965 := k48958.tr kk48965 (by decide)
              show jEv _ _ _ _ _ _ _ (_, [(2, 42), (0, a1), (0, a2), (0, x3), (0, x4), (0, x5)], [(0, v48966)], _, _, _)
              refine ev_goto f345_108 ?_
              exact ev_ret rfl (by decide) (by decide) ⟨_, rfl, by omega, by omega, g48965, k48965⟩
        · refine ev_goto f345_112 ?_
          refine ev_iinc (w := (x5 + 1)) (L' := [(2, 42), (0, a1), (0, a2), (0, x3), (0, x4), (0, (x5 + 1))]) rfl (by unfold w32; omega) rfl ?_
          refine ev_goto f345_59 ?_
          exact ih.2 _ _ _ _ g48958 k48958 (by omega) (by omega) (by omega) (by omega) (by omega) (by omega) (by omega) (by omega) (by omega) (by omega) (by omega)
set_option maxHeartbeats 4000000 in
theorem s345 {G : GH} {h : JH} (g : Gd G h) {a1 : Int} (la1 : (-2147483648) ≤ a1) (ua1 : a1 ≤ 2147483647) {a2 : Int} (la2 : (-2147483648) ≤ a2) (ua2 : a2 ≤ 2147483647) : jOk 4 0 0 345 [(2, 42), (0, a1), (0, a2)] h (PI G [] h 0 (-2147483648) 2147483647) := by
  refine ⟨by decide, by rw [ml345]; exact Nat.le_of_ble_eq_true rfl, ?_⟩
  rw [ml345, pp345]
  show jEv _ none _ c345_0 0 0 _ (c345_0, [(2, 42), (0, a1), (0, a2), (9, 0), (9, 0), (9, 0)], [], h, 0, 0)
  have k0 := Kp.rf [] h
  refine ev_iload_n rfl ?_
  refine ev_iconst ?_
  refine ev_bipush ?_
  refine ev_in (d := 2) (a := 0) (b := 0) (cd' := c242_0) (m := 3) (L0 := [(0, a1), (0, 0), (0, 99)]) (jcall_s (A := [(0, 99), (0, 0), (0, a1)]) (S' := []) (by decide) rfl (Nat.le_of_ble_eq_true rfl)) (by decide) ml242 pp242 (Nat.le_of_ble_eq_true rfl) rfl (by decide) (by decide) ?_
  refine ev_iload_n rfl ?_
  refine ev_iload_n rfl ?_
  refine ev_icmplt f242_14 (fun c48967 => ?_) (fun c48967 => ?_)
  · refine ev_iconst ?_
    refine ev_ret rfl (by decide) (by decide) ?_
    show jEv _ _ _ _ _ _ _ (_, [(2, 42), (0, a1), (0, a2), (9, 0), (9, 0), (9, 0)], [(0, 0)], _, _, _)
    refine ev_ifeq f345_19 (fun c48968 => ?_) (fun c48968 => absurd c48968 (by omega))
    refine ev_iconst ?_
    exact ev_ret rfl (by decide) (by decide) ⟨_, rfl, by omega, by omega, g, k0⟩
  · refine ev_iload_n rfl ?_
    refine ev_iload_n rfl ?_
    refine ev_icmpgt f242_14 (fun c48969 => ?_) (fun c48969 => ?_)
    · refine ev_iconst ?_
      refine ev_ret rfl (by decide) (by decide) ?_
      show jEv _ _ _ _ _ _ _ (_, [(2, 42), (0, a1), (0, a2), (9, 0), (9, 0), (9, 0)], [(0, 0)], _, _, _)
      refine ev_ifeq f345_19 (fun c48970 => ?_) (fun c48970 => absurd c48970 (by omega))
      refine ev_iconst ?_
      exact ev_ret rfl (by decide) (by decide) ⟨_, rfl, by omega, by omega, g, k0⟩
    · refine ev_iconst ?_
      refine ev_goto f242_15 ?_
      refine ev_ret rfl (by decide) (by decide) ?_
      show jEv _ _ _ _ _ _ _ (_, [(2, 42), (0, a1), (0, a2), (9, 0), (9, 0), (9, 0)], [(0, 1)], _, _, _)
      refine ev_ifeq f345_19 (fun c48971 => absurd c48971 (by omega)) (fun c48971 => ?_)
      refine ev_iload_n rfl ?_
      refine ev_iconst ?_
      refine ev_iconst ?_
      refine ev_in (d := 2) (a := 0) (b := 0) (cd' := c242_0) (m := 3) (L0 := [(0, a2), (0, 0), (0, 2)]) (jcall_s (A := [(0, 2), (0, 0), (0, a2)]) (S' := []) (by decide) rfl (Nat.le_of_ble_eq_true rfl)) (by decide) ml242 pp242 (Nat.le_of_ble_eq_true rfl) rfl (by decide) (by decide) ?_
      refine ev_iload_n rfl ?_
      refine ev_iload_n rfl ?_
      refine ev_icmplt f242_14 (fun c48972 => ?_) (fun c48972 => ?_)
      · refine ev_iconst ?_
        refine ev_ret rfl (by decide) (by decide) ?_
        show jEv _ _ _ _ _ _ _ (_, [(2, 42), (0, a1), (0, a2), (9, 0), (9, 0), (9, 0)], [(0, 0)], _, _, _)
        refine ev_ifne f345_21 (fun c48973 => absurd c48973 (by omega)) (fun c48973 => ?_)
        refine ev_iconst ?_
        exact ev_ret rfl (by decide) (by decide) ⟨_, rfl, by omega, by omega, g, k0⟩
      · refine ev_iload_n rfl ?_
        refine ev_iload_n rfl ?_
        refine ev_icmpgt f242_14 (fun c48974 => ?_) (fun c48974 => ?_)
        · refine ev_iconst ?_
          refine ev_ret rfl (by decide) (by decide) ?_
          show jEv _ _ _ _ _ _ _ (_, [(2, 42), (0, a1), (0, a2), (9, 0), (9, 0), (9, 0)], [(0, 0)], _, _, _)
          refine ev_ifne f345_21 (fun c48975 => absurd c48975 (by omega)) (fun c48975 => ?_)
          refine ev_iconst ?_
          exact ev_ret rfl (by decide) (by decide) ⟨_, rfl, by omega, by omega, g, k0⟩
        · refine ev_iconst ?_
          refine ev_goto f242_15 ?_
          refine ev_ret rfl (by decide) (by decide) ?_
          show jEv _ _ _ _ _ _ _ (_, [(2, 42), (0, a1), (0, a2), (9, 0), (9, 0), (9, 0)], [(0, 1)], _, _, _)
          refine ev_ifne f345_21 (fun c48976 => ?_) (fun c48976 => absurd c48976 (by omega))
          refine ev_aload_n rfl ?_
          obtain ⟨v48977, ev48977, lv48977, uv48977⟩ := g.rd ad42 (show 47 < 66 by decide) rf42_47
          refine g_getv (r := 42) (v := v48977) g ad42 (by decide) ft12_47 ev48977 ?_
          refine ev_ifeq f345_35 (fun c48978 => ?_) (fun c48978 => ?_)
          · refine ev_bipush ?_
            exact ev_ret rfl (by decide) (by decide) ⟨_, rfl, by omega, by omega, g, k0⟩
          · refine ev_aload_n rfl ?_
            obtain ⟨v48979, ev48979, lv48979, uv48979⟩ := g.rd ad42 (show 51 < 66 by decide) rf42_51
            refine g_getv (r := 42) (v := v48979) g ad42 (by decide) ft12_51 ev48979 ?_
            refine ev_ifne f345_38 (fun c48980 => ?_) (fun c48980 => ?_)
            · refine ev_iconst ?_
              refine ev_istore_n (L' := [(2, 42), (0, a1), (0, a2), (0, 0), (9, 0), (9, 0)]) (Nat.le_of_ble_eq_true rfl) rfl ?_
              refine ev_iconst ?_
              refine ev_istore (L' := [(2, 42), (0, a1), (0, a2), (0, 0), (0, 0), (9, 0)]) (Nat.le_of_ble_eq_true rfl) rfl ?_
              exact (s345_l la1 ua1 la2 ua2 4420).1 _ _ _ _ g k0 (by omega) (by omega) (by omega) (by omega) (by omega) (by omega) (by omega) (by omega) (by omega)
            · refine ev_bipush ?_
              exact ev_ret rfl (by decide) (by decide) ⟨_, rfl, by omega, by omega, g, k0⟩
/-! 346 clear -/
set_option maxHeartbeats 4000000 in
theorem s346 {G : GH} {h : JH} (g : Gd G h)  : jOk 1 0 0 346 [(2, 42)] h (PI G [(42, 48), (42, 52)] h 0 0 3) := by
  refine ⟨by decide, by rw [ml346]; exact Nat.le_of_ble_eq_true rfl, ?_⟩
  rw [ml346, pp346]
  show jEv _ none _ c346_0 0 0 _ (c346_0, [(2, 42), (9, 0)], [], h, 0, 0)
  have k0 := Kp.rf [(42, 48), (42, 52)] h
  refine ev_aload_n rfl ?_
  obtain ⟨v48987, ev48987, lv48987, uv48987⟩ := g.rd ad42 (show 47 < 66 by decide) rf42_47
  refine g_getv (r := 42) (v := v48987) g ad42 (by decide) ft12_47 ev48987 ?_
  refine ev_istore_n (L' := [(2, 42), (0, v48987)]) (Nat.le_of_ble_eq_true rfl) rfl ?_
  refine ev_aload_n rfl ?_
  refine ev_iconst ?_
  refine g_putf (r := 42) g ad42 (by decide) ft12_47 (by decide) (fun e => absurd e nz12_47) rf42_47 (by decide) (by omega) (by omega) (fun h48988 e48988 g48988 => ?_)
  have k48988 := k0.wr e48988 rfl
  refine ev_aload_n rfl ?_
  refine ev_iconst ?_
  refine g_putf (r := 42) g48988 ad42 (by decide) ft12_51 (by decide) (fun e => absurd e nz12_51) rf42_51 (by decide) (by omega) (by omega) (fun h48989 e48989 g48989 => ?_)
  have k48989 := k48988.wr e48989 rfl
  refine ev_iload_n rfl ?_
  exact ev_ret rfl (by decide) (by decide) ⟨_, rfl, by omega, by omega, g48989, k48989⟩
/-! 347 effort -/
set_option maxHeartbeats 4000000 in
theorem s347 {G : GH} {h : JH} (g : Gd G h) {a1 : Int} (la1 : (-2147483648) ≤ a1) (ua1 : a1 ≤ 2147483647) {a2 : Int} (la2 : (-2147483648) ≤ a2) (ua2 : a2 ≤ 2147483647) : jOk 2 0 0 347 [(2, 42), (0, a1), (0, a2)] h (PI G [(42, 54), (72, 0), (73, 0)] h 0 (-3) 4) := by
  refine ⟨by decide, by rw [ml347]; exact Nat.le_of_ble_eq_true rfl, ?_⟩
  rw [ml347, pp347]
  show jEv _ none _ c347_0 0 0 _ (c347_0, [(2, 42), (0, a1), (0, a2)], [], h, 0, 0)
  have k0 := Kp.rf [(42, 54), (72, 0), (73, 0)] h
  refine ev_iload_n rfl ?_
  refine ev_iconst ?_
  refine ev_bipush ?_
  refine ev_in (d := 0) (a := 0) (b := 0) (cd' := c242_0) (m := 3) (L0 := [(0, a1), (0, 0), (0, 99)]) (jcall_s (A := [(0, 99), (0, 0), (0, a1)]) (S' := []) (by decide) rfl (Nat.le_of_ble_eq_true rfl)) (by decide) ml242 pp242 (Nat.le_of_ble_eq_true rfl) rfl (by decide) (by decide) ?_
  refine ev_iload_n rfl ?_
  refine ev_iload_n rfl ?_
  refine ev_icmplt f242_14 (fun c49020 => ?_) (fun c49020 => ?_)
  · refine ev_iconst ?_
    refine ev_ret rfl (by decide) (by decide) ?_
    show jEv _ _ _ _ _ _ _ (_, [(2, 42), (0, a1), (0, a2)], [(0, 0)], _, _, _)
    refine ev_ifeq f347_20 (fun c49021 => ?_) (fun c49021 => absurd c49021 (by omega))
    refine ev_iconst ?_
    exact ev_ret rfl (by decide) (by decide) ⟨_, rfl, by omega, by omega, g, k0⟩
  · refine ev_iload_n rfl ?_
    refine ev_iload_n rfl ?_
    refine ev_icmpgt f242_14 (fun c49022 => ?_) (fun c49022 => ?_)
    · refine ev_iconst ?_
      refine ev_ret rfl (by decide) (by decide) ?_
      show jEv _ _ _ _ _ _ _ (_, [(2, 42), (0, a1), (0, a2)], [(0, 0)], _, _, _)
      refine ev_ifeq f347_20 (fun c49023 => ?_) (fun c49023 => absurd c49023 (by omega))
      refine ev_iconst ?_
      exact ev_ret rfl (by decide) (by decide) ⟨_, rfl, by omega, by omega, g, k0⟩
    · refine ev_iconst ?_
      refine ev_goto f242_15 ?_
      refine ev_ret rfl (by decide) (by decide) ?_
      show jEv _ _ _ _ _ _ _ (_, [(2, 42), (0, a1), (0, a2)], [(0, 1)], _, _, _)
      refine ev_ifeq f347_20 (fun c49024 => absurd c49024 (by omega)) (fun c49024 => ?_)
      refine ev_iload_n rfl ?_
      refine ev_iconst ?_
      refine ev_bipush ?_
      refine ev_in (d := 0) (a := 0) (b := 0) (cd' := c242_0) (m := 3) (L0 := [(0, a2), (0, 0), (0, 100)]) (jcall_s (A := [(0, 100), (0, 0), (0, a2)]) (S' := []) (by decide) rfl (Nat.le_of_ble_eq_true rfl)) (by decide) ml242 pp242 (Nat.le_of_ble_eq_true rfl) rfl (by decide) (by decide) ?_
      refine ev_iload_n rfl ?_
      refine ev_iload_n rfl ?_
      refine ev_icmplt f242_14 (fun c49025 => ?_) (fun c49025 => ?_)
      · refine ev_iconst ?_
        refine ev_ret rfl (by decide) (by decide) ?_
        show jEv _ _ _ _ _ _ _ (_, [(2, 42), (0, a1), (0, a2)], [(0, 0)], _, _, _)
        refine ev_ifne f347_22 (fun c49026 => absurd c49026 (by omega)) (fun c49026 => ?_)
        refine ev_iconst ?_
        exact ev_ret rfl (by decide) (by decide) ⟨_, rfl, by omega, by omega, g, k0⟩
      · refine ev_iload_n rfl ?_
        refine ev_iload_n rfl ?_
        refine ev_icmpgt f242_14 (fun c49027 => ?_) (fun c49027 => ?_)
        · refine ev_iconst ?_
          refine ev_ret rfl (by decide) (by decide) ?_
          show jEv _ _ _ _ _ _ _ (_, [(2, 42), (0, a1), (0, a2)], [(0, 0)], _, _, _)
          refine ev_ifne f347_22 (fun c49028 => absurd c49028 (by omega)) (fun c49028 => ?_)
          refine ev_iconst ?_
          exact ev_ret rfl (by decide) (by decide) ⟨_, rfl, by omega, by omega, g, k0⟩
        · refine ev_iconst ?_
          refine ev_goto f242_15 ?_
          refine ev_ret rfl (by decide) (by decide) ?_
          show jEv _ _ _ _ _ _ _ (_, [(2, 42), (0, a1), (0, a2)], [(0, 1)], _, _, _)
          refine ev_ifne f347_22 (fun c49029 => ?_) (fun c49029 => absurd c49029 (by omega))
          refine ev_aload_n rfl ?_
          obtain ⟨v49030, ev49030, lv49030, uv49030⟩ := g.rd ad42 (show 53 < 66 by decide) rf42_53
          refine g_getv (r := 42) (v := v49030) g ad42 (by decide) ft12_53 ev49030 ?_
          refine ev_iconst ?_
          refine ev_icmpne f347_33 (fun c49031 => ?_) (fun c49031 => ?_)
          · refine ev_aload_n rfl ?_
            refine g_getp (r := 42) (c := 72) g ad42 (by decide) (by decide) rf42_54 ft12_54 ?_
            refine ev_aload_n rfl ?_
            refine g_getv (r := 42) (v := v49030) g ad42 (by decide) ft12_53 (ev49030) ?_
            refine ev_iload_n rfl ?_
            refine g_iast g ad72 rt72 (fun _ => rfl) (by omega) (by omega) (by omega) (by omega) (fun h49032 e49032 g49032 => ?_)
            have k49032 := k0.wr e49032 rfl
            refine ev_aload_n rfl ?_
            refine g_getp (r := 42) (c := 73) g49032 ad42 (by decide) (by decide) rf42_55 ft12_55 ?_
            refine ev_aload_n rfl ?_
            refine g_getv (r := 42) (v := v49030) g49032 ad42 (by decide) ft12_53 (((jw_ne e49032 (Or.inl (by decide))).trans ev49030)) ?_
            refine ev_iload_n rfl ?_
            refine g_iast g49032 ad73 rt73 (fun _ => rfl) (by omega) (by omega) (by omega) (by omega) (fun h49033 e49033 g49033 => ?_)
            have k49033 := k49032.wr e49033 rfl
            refine ev_aload_n rfl ?_
            refine ev_dup (by decide) ?_
            refine g_getv (r := 42) (v := v49030) g49033 ad42 (by decide) ft12_53 (((jw_ne e49033 (Or.inl (by decide))).trans ((jw_ne e49032 (Or.inl (by decide))).trans ev49030))) ?_
            refine ev_iconst ?_
            refine ev_iadd (r := (v49030 + 1)) (by unfold w32; omega) ?_
            refine g_putf (r := 42) g49033 ad42 (by decide) ft12_53 (by decide) (fun e => absurd e nz12_53) rf42_53 (by decide) (by omega) (by omega) (fun h49034 e49034 g49034 => ?_)
            have k49034 := k49033.wr e49034 rfl
            refine ev_aload_n rfl ?_
            refine g_getv (r := 42) (v := (v49030 + 1)) g49034 ad42 (by decide) ft12_53 ((jw_eq e49034)) ?_
            exact ev_ret rfl (by decide) (by decide) ⟨_, rfl, by omega, by omega, g49034, k49034⟩
          · refine ev_bipush ?_
            exact ev_ret rfl (by decide) (by decide) ⟨_, rfl, by omega, by omega, g, k0⟩
/-! 348 effortFor -/
set_option maxHeartbeats 4000000 in
theorem s348_l {G : GH} {h : JH} {a1 : Int} (la1 : 0 ≤ a1) (ua1 : a1 ≤ 100) {a2 : Int} (la2 : 0 ≤ a2) (ua2 : a2 ≤ 999) : ∀ N : Nat, (∀ (h1 : JH) (x3 x4 x5 : Int) (j6 : AV), Gd G h1 → Kp [] h h1 → 0 ≤ a1 → a1 ≤ 100 → 0 ≤ a2 → a2 ≤ 999 → 0 ≤ x3 → x3 ≤ 3 → (-990000) ≤ x4 → x4 ≤ 9990000 → 0 ≤ x5 → x5 ≤ 4 → ((-x5) + 4) < N → jEv (jOk 0) none (fun _ => 0) c348_0 0 0 (PI G [] h 0 0 3) (c348_8, [(2, 42), (0, a1), (0, a2), (0, x3), (0, x4), (0, x5), j6], [], h1, 0, 0)) := by
  intro N
  induction N with
  | zero => exact fun h1 x3 x4 x5 j6 g1 k1 b0 b1 b2 b3 b4 b5 b6 b7 b8 b9 hm => absurd hm (by omega)
  | succ N ih =>
    show _
    intro h1 x3 x4 x5 j6 g1 k1 b0 b1 b2 b3 b4 b5 b6 b7 b8 b9 hm
    refine ev_iload rfl ?_
    refine ev_aload_n rfl ?_
    obtain ⟨v49082, ev49082, lv49082, uv49082⟩ := g1.rd ad42 (show 53 < 66 by decide) rf42_53
    refine g_getv (r := 42) (v := v49082) g1 ad42 (by decide) ft12_53 ev49082 ?_
    refine ev_icmpge f348_70 (fun c49083 => ?_) (fun c49083 => ?_)
    · refine ev_iload_n rfl ?_
      exact ev_ret rfl (by decide) (by decide) ⟨_, rfl, by omega, by omega, g1, k1⟩
    · refine ev_iload_n rfl ?_
      refine ev_iload_n rfl ?_
      refine g_imulB (a := 100) (b := 999) (a' := 0) (b' := 0) (by omega) (by omega) (by omega) (by omega) (by decide) (lo := 0) (hi := 99900) (by decide) (by decide) (fun v49084 ev49084 lv49084 uv49084 => ?_)
      refine ev_aload_n rfl ?_
      refine g_getp (r := 42) (c := 73) g1 ad42 (by decide) (by decide) rf42_55 ft12_55 ?_
      refine ev_iload rfl ?_
      refine g_iald g1 ad73 rt73 (by omega) (by omega) (fun v49085 ev49085 lv49085 uv49085 => ?_)
      refine g_imulB (a := 99900) (b := 100) (a' := 0) (b' := 0) (by omega) (by omega) (by omega) (by omega) (by decide) (lo := 0) (hi := 9990000) (by decide) (by decide) (fun v49086 ev49086 lv49086 uv49086 => ?_)
      refine ev_sipush ?_
      refine ev_aload_n rfl ?_
      refine g_getp (r := 42) (c := 72) g1 ad42 (by decide) (by decide) rf42_54 ft12_54 ?_
      refine ev_iload rfl ?_
      refine g_iald g1 ad72 rt72 (by omega) (by omega) (fun v49087 ev49087 lv49087 uv49087 => ?_)
      refine ev_imul (r := (10000 * v49087)) (by unfold w32; omega) ?_
      refine ev_isub (r := (v49086 + (-10000) * v49087)) (by unfold w32; omega) ?_
      refine ev_istore (L' := [(2, 42), (0, a1), (0, a2), (0, x3), (0, x4), (0, x5), (0, (v49086 + (-10000) * v49087))]) (Nat.le_of_ble_eq_true rfl) rfl ?_
      refine ev_iload rfl ?_
      refine ev_ifle f348_57 (fun c49088 => ?_) (fun c49088 => ?_)
      · refine ev_iload rfl ?_
        refine ev_istore_n (L' := [(2, 42), (0, a1), (0, a2), (0, x5), (0, x4), (0, x5), (0, (v49086 + (-10000) * v49087))]) (Nat.le_of_ble_eq_true rfl) rfl ?_
        refine ev_iload rfl ?_
        refine ev_istore (L' := [(2, 42), (0, a1), (0, a2), (0, x5), (0, (v49086 + (-10000) * v49087)), (0, x5), (0, (v49086 + (-10000) * v49087))]) (Nat.le_of_ble_eq_true rfl) rfl ?_
        refine ev_iinc (w := (x5 + 1)) (L' := [(2, 42), (0, a1), (0, a2), (0, x5), (0, (v49086 + (-10000) * v49087)), (0, (x5 + 1)), (0, (v49086 + (-10000) * v49087))]) rfl (by unfold w32; omega) rfl ?_
        refine ev_goto f348_8 ?_
        exact ih _ _ _ _ _ g1 k1 (by omega) (by omega) (by omega) (by omega) (by omega) (by omega) (by omega) (by omega) (by omega) (by omega) (by omega)
      · refine ev_iload rfl ?_
        refine ev_iload rfl ?_
        refine ev_icmpgt f348_57 (fun c49089 => ?_) (fun c49089 => ?_)
        · refine ev_iload rfl ?_
          refine ev_istore_n (L' := [(2, 42), (0, a1), (0, a2), (0, x5), (0, x4), (0, x5), (0, (v49086 + (-10000) * v49087))]) (Nat.le_of_ble_eq_true rfl) rfl ?_
          refine ev_iload rfl ?_
          refine ev_istore (L' := [(2, 42), (0, a1), (0, a2), (0, x5), (0, (v49086 + (-10000) * v49087)), (0, x5), (0, (v49086 + (-10000) * v49087))]) (Nat.le_of_ble_eq_true rfl) rfl ?_
          refine ev_iinc (w := (x5 + 1)) (L' := [(2, 42), (0, a1), (0, a2), (0, x5), (0, (v49086 + (-10000) * v49087)), (0, (x5 + 1)), (0, (v49086 + (-10000) * v49087))]) rfl (by unfold w32; omega) rfl ?_
          refine ev_goto f348_8 ?_
          exact ih _ _ _ _ _ g1 k1 (by omega) (by omega) (by omega) (by omega) (by omega) (by omega) (by omega) (by omega) (by omega) (by omega) (by omega)
        · refine ev_goto f348_64 ?_
          refine ev_iinc (w := (x5 + 1)) (L' := [(2, 42), (0, a1), (0, a2), (0, x3), (0, x4), (0, (x5 + 1)), (0, (v49086 + (-10000) * v49087))]) rfl (by unfold w32; omega) rfl ?_
          refine ev_goto f348_8 ?_
          exact ih _ _ _ _ _ g1 k1 (by omega) (by omega) (by omega) (by omega) (by omega) (by omega) (by omega) (by omega) (by omega) (by omega) (by omega)
set_option maxHeartbeats 4000000 in
theorem s348 {G : GH} {h : JH} (g : Gd G h) {a1 : Int} (la1 : 0 ≤ a1) (ua1 : a1 ≤ 100) {a2 : Int} (la2 : 0 ≤ a2) (ua2 : a2 ≤ 999) : jOk 1 0 0 348 [(2, 42), (0, a1), (0, a2)] h (PI G [] h 0 0 3) := by
  refine ⟨by decide, by rw [ml348]; exact Nat.le_of_ble_eq_true rfl, ?_⟩
  rw [ml348, pp348]
  show jEv _ none _ c348_0 0 0 _ (c348_0, [(2, 42), (0, a1), (0, a2), (9, 0), (9, 0), (9, 0), (9, 0)], [], h, 0, 0)
  have k0 := Kp.rf [] h
  refine ev_iconst ?_
  refine ev_istore_n (L' := [(2, 42), (0, a1), (0, a2), (0, 0), (9, 0), (9, 0), (9, 0)]) (Nat.le_of_ble_eq_true rfl) rfl ?_
  refine ev_iconst ?_
  refine ev_istore (L' := [(2, 42), (0, a1), (0, a2), (0, 0), (0, 0), (9, 0), (9, 0)]) (Nat.le_of_ble_eq_true rfl) rfl ?_
  refine ev_iconst ?_
  refine ev_istore (L' := [(2, 42), (0, a1), (0, a2), (0, 0), (0, 0), (0, 0), (9, 0)]) (Nat.le_of_ble_eq_true rfl) rfl ?_
  exact (s348_l la1 ua1 la2 ua2 10) _ _ _ _ _ g k0 (by omega) (by omega) (by omega) (by omega) (by omega) (by omega) (by omega) (by omega) (by omega) (by omega) (by omega)
/-! 349 hired -/
set_option maxHeartbeats 4000000 in
theorem s349_l {G : GH} {h : JH} {a1 : Int} (la1 : (-2147483648) ≤ a1) (ua1 : a1 ≤ 2147483647) {a2 : Int} (la2 : (-2147483648) ≤ a2) (ua2 : a2 ≤ 2147483647) : ∀ N : Nat, (∀ (h1 : JH) (x3 x4 x5 : Int) (j6 : AV), Gd G h1 → Kp [(42, 54)] h h1 → 0 ≤ a1 → a1 ≤ 999 → 0 ≤ a2 → a2 ≤ 3 → 0 ≤ x3 → x3 ≤ 100 → (-1) ≤ x4 → x4 ≤ 9990000 → 0 ≤ x5 → x5 ≤ 101 → ((-x5) + 101) < N → jEv (jOk 2) none (fun _ => 0) c349_0 0 0 (PI G [(42, 54)] h 0 (-2147483648) 2147483647) (c349_58, [(2, 42), (0, a1), (0, a2), (0, x3), (0, x4), (0, x5), j6], [], h1, 0, 0)) := by
  intro N
  induction N with
  | zero => exact fun h1 x3 x4 x5 j6 g1 k1 b0 b1 b2 b3 b4 b5 b6 b7 b8 b9 hm => absurd hm (by omega)
  | succ N ih =>
    show _
    intro h1 x3 x4 x5 j6 g1 k1 b0 b1 b2 b3 b4 b5 b6 b7 b8 b9 hm
    refine ev_iload rfl ?_
    refine ev_bipush ?_
    refine ev_icmpgt f349_110 (fun c49413 => ?_) (fun c49413 => ?_)
    · refine ev_iload_n rfl ?_
      refine ev_iconst ?_
      refine ev_icmpge f349_130 (fun c49414 => ?_) (fun c49414 => ?_)
      · refine ev_iload rfl ?_
        refine ev_i2l ?_
        refine ev_ldc2_w ?_
        refine ev_iload_n rfl ?_
        refine ev_iconst ?_
        refine ev_isub (r := (a2 - 2)) (by unfold w32; omega) ?_
        refine ev_call (jcall_s (A := [(0, (a2 - 2)), (1, 10000), (1, x4)]) (S' := []) (by decide) rfl (Nat.le_of_ble_eq_true rfl)) (jOk_le (by decide) (s244 g1 (by omega) (by omega) (by omega) (by omega) (by omega) (by omega))) (by decide) (by decide) (fun w49415 h49415 q49415 => ?_)
        obtain ⟨v49416, rfl, lv49416, uv49416, g49415, kk49415⟩ := q49415
        have k49415 := k1.tr kk49415 (by decide)
        show jEv _ _ _ _ _ _ _ (_, [(2, 42), (0, a1), (0, a2), (0, x3), (0, x4), (0, x5), j6], [(1, v49416)], _, _, _)
        refine g_l2iG (fun v49417 ev49417 lv49417 uv49417 => ?_)
        exact ev_ret rfl (by decide) (by decide) ⟨_, rfl, by omega, by omega, g49415, k49415⟩
      · refine ev_iload_n rfl ?_
        refine ev_ifne f349_123 (fun c49418 => ?_) (fun c49418 => ?_)
        · refine ev_aload_n rfl ?_
          refine ev_iload_n rfl ?_
          refine ev_iload_n rfl ?_
          refine ev_call (jcall_v (A := [(0, a1), (0, x3)]) (S' := []) (r := 42) rfl (g1.lt ad42) (g1.tg ad42) (Nat.le_of_ble_eq_true rfl)) (jOk_le (by decide) (s348 g1 (by omega) (by omega) (by omega) (by omega))) (by decide) (by decide) (fun w49419 h49419 q49419 => ?_)
          obtain ⟨v49420, rfl, lv49420, uv49420, g49419, kk49419⟩ := q49419
          have k49419 := k1.tr kk49419 (by decide)
          show jEv _ _ _ _ _ _ _ (_, [(2, 42), (0, a1), (0, a2), (0, x3), (0, x4), (0, x5), j6], [(0, v49420)], _, _, _)
          exact ev_ret rfl (by decide) (by decide) ⟨_, rfl, by omega, by omega, g49419, k49419⟩
        · refine ev_iload_n rfl ?_
          refine ev_goto f349_129 ?_
          exact ev_ret rfl (by decide) (by decide) ⟨_, rfl, by omega, by omega, g1, k1⟩
    · refine ev_bipush ?_
      refine ev_iload rfl ?_
      refine ev_isub (r := ((-x5) + 100)) (by unfold w32; omega) ?_
      refine ev_iload_n rfl ?_
      refine g_imulB (a := 100) (b := 999) (a' := 0) (b' := 0) (by omega) (by omega) (by omega) (by omega) (by decide) (lo := 0) (hi := 99900) (by decide) (by decide) (fun v49421 ev49421 lv49421 uv49421 => ?_)
      refine ev_aload_n rfl ?_
      refine g_getp (r := 42) (c := 73) g1 ad42 (by decide) (by decide) rf42_55 ft12_55 ?_
      refine ev_aload_n rfl ?_
      refine ev_iload rfl ?_
      refine ev_iload_n rfl ?_
      refine ev_call (jcall_v (A := [(0, a1), (0, x5)]) (S' := [(2, 73), (0, v49421)]) (r := 42) rfl (g1.lt ad42) (g1.tg ad42) (Nat.le_of_ble_eq_true rfl)) (jOk_le (by decide) (s348 g1 (by omega) (by omega) (by omega) (by omega))) (by decide) (by decide) (fun w49422 h49422 q49422 => ?_)
      obtain ⟨v49423, rfl, lv49423, uv49423, g49422, kk49422⟩ := q49422
      have k49422 := k1.tr kk49422 (by decide)
      show jEv _ _ _ _ _ _ _ (_, [(2, 42), (0, a1), (0, a2), (0, x3), (0, x4), (0, x5), j6], [(0, v49423), (2, 73), (0, v49421)], _, _, _)
      refine g_iald g49422 ad73 rt73 (by omega) (by omega) (fun v49424 ev49424 lv49424 uv49424 => ?_)
      refine g_imulB (a := 99900) (b := 100) (a' := 0) (b' := 0) (by omega) (by omega) (by omega) (by omega) (by decide) (lo := 0) (hi := 9990000) (by decide) (by decide) (fun v49425 ev49425 lv49425 uv49425 => ?_)
      refine ev_istore (L' := [(2, 42), (0, a1), (0, a2), (0, x3), (0, x4), (0, x5), (0, v49425)]) (Nat.le_of_ble_eq_true rfl) rfl ?_
      refine ev_iload rfl ?_
      refine ev_iload rfl ?_
      refine ev_icmpgt f349_97 (fun c49426 => ?_) (fun c49426 => ?_)
      · refine ev_iload rfl ?_
        refine ev_istore_n (L' := [(2, 42), (0, a1), (0, a2), (0, x5), (0, x4), (0, x5), (0, v49425)]) (Nat.le_of_ble_eq_true rfl) rfl ?_
        refine ev_iload rfl ?_
        refine ev_istore (L' := [(2, 42), (0, a1), (0, a2), (0, x5), (0, v49425), (0, x5), (0, v49425)]) (Nat.le_of_ble_eq_true rfl) rfl ?_
        refine ev_iinc (w := (x5 + 1)) (L' := [(2, 42), (0, a1), (0, a2), (0, x5), (0, v49425), (0, (x5 + 1)), (0, v49425)]) rfl (by unfold w32; omega) rfl ?_
        refine ev_goto f349_58 ?_
        exact ih _ _ _ _ _ g49422 k49422 (by omega) (by omega) (by omega) (by omega) (by omega) (by omega) (by omega) (by omega) (by omega) (by omega) (by omega)
      · refine ev_goto f349_104 ?_
        refine ev_iinc (w := (x5 + 1)) (L' := [(2, 42), (0, a1), (0, a2), (0, x3), (0, x4), (0, (x5 + 1)), (0, v49425)]) rfl (by unfold w32; omega) rfl ?_
        refine ev_goto f349_58 ?_
        exact ih _ _ _ _ _ g49422 k49422 (by omega) (by omega) (by omega) (by omega) (by omega) (by omega) (by omega) (by omega) (by omega) (by omega) (by omega)
set_option maxHeartbeats 4000000 in
theorem s349 {G : GH} {h : JH} (g : Gd G h) {a1 : Int} (la1 : (-2147483648) ≤ a1) (ua1 : a1 ≤ 2147483647) {a2 : Int} (la2 : (-2147483648) ≤ a2) (ua2 : a2 ≤ 2147483647) : jOk 3 0 0 349 [(2, 42), (0, a1), (0, a2)] h (PI G [(42, 54)] h 0 (-2147483648) 2147483647) := by
  refine ⟨by decide, by rw [ml349]; exact Nat.le_of_ble_eq_true rfl, ?_⟩
  rw [ml349, pp349]
  show jEv _ none _ c349_0 0 0 _ (c349_0, [(2, 42), (0, a1), (0, a2), (9, 0), (9, 0), (9, 0), (9, 0)], [], h, 0, 0)
  have k0 := Kp.rf [(42, 54)] h
  refine ev_iload_n rfl ?_
  refine ev_iconst ?_
  refine ev_sipush ?_
  refine ev_in (d := 1) (a := 0) (b := 0) (cd' := c242_0) (m := 3) (L0 := [(0, a1), (0, 0), (0, 999)]) (jcall_s (A := [(0, 999), (0, 0), (0, a1)]) (S' := []) (by decide) rfl (Nat.le_of_ble_eq_true rfl)) (by decide) ml242 pp242 (Nat.le_of_ble_eq_true rfl) rfl (by decide) (by decide) ?_
  refine ev_iload_n rfl ?_
  refine ev_iload_n rfl ?_
  refine ev_icmplt f242_14 (fun c49427 => ?_) (fun c49427 => ?_)
  · refine ev_iconst ?_
    refine ev_ret rfl (by decide) (by decide) ?_
    show jEv _ _ _ _ _ _ _ (_, [(2, 42), (0, a1), (0, a2), (9, 0), (9, 0), (9, 0), (9, 0)], [(0, 0)], _, _, _)
    refine ev_ifeq f349_20 (fun c49428 => ?_) (fun c49428 => absurd c49428 (by omega))
    refine ev_iconst ?_
    exact ev_ret rfl (by decide) (by decide) ⟨_, rfl, by omega, by omega, g, k0⟩
  · refine ev_iload_n rfl ?_
    refine ev_iload_n rfl ?_
    refine ev_icmpgt f242_14 (fun c49429 => ?_) (fun c49429 => ?_)
    · refine ev_iconst ?_
      refine ev_ret rfl (by decide) (by decide) ?_
      show jEv _ _ _ _ _ _ _ (_, [(2, 42), (0, a1), (0, a2), (9, 0), (9, 0), (9, 0), (9, 0)], [(0, 0)], _, _, _)
      refine ev_ifeq f349_20 (fun c49430 => ?_) (fun c49430 => absurd c49430 (by omega))
      refine ev_iconst ?_
      exact ev_ret rfl (by decide) (by decide) ⟨_, rfl, by omega, by omega, g, k0⟩
    · refine ev_iconst ?_
      refine ev_goto f242_15 ?_
      refine ev_ret rfl (by decide) (by decide) ?_
      show jEv _ _ _ _ _ _ _ (_, [(2, 42), (0, a1), (0, a2), (9, 0), (9, 0), (9, 0), (9, 0)], [(0, 1)], _, _, _)
      refine ev_ifeq f349_20 (fun c49431 => absurd c49431 (by omega)) (fun c49431 => ?_)
      refine ev_iload_n rfl ?_
      refine ev_iconst ?_
      refine ev_iconst ?_
      refine ev_in (d := 1) (a := 0) (b := 0) (cd' := c242_0) (m := 3) (L0 := [(0, a2), (0, (-1)), (0, 3)]) (jcall_s (A := [(0, 3), (0, (-1)), (0, a2)]) (S' := []) (by decide) rfl (Nat.le_of_ble_eq_true rfl)) (by decide) ml242 pp242 (Nat.le_of_ble_eq_true rfl) rfl (by decide) (by decide) ?_
      refine ev_iload_n rfl ?_
      refine ev_iload_n rfl ?_
      refine ev_icmplt f242_14 (fun c49432 => ?_) (fun c49432 => ?_)
      · refine ev_iconst ?_
        refine ev_ret rfl (by decide) (by decide) ?_
        show jEv _ _ _ _ _ _ _ (_, [(2, 42), (0, a1), (0, a2), (9, 0), (9, 0), (9, 0), (9, 0)], [(0, 0)], _, _, _)
        refine ev_ifne f349_22 (fun c49433 => absurd c49433 (by omega)) (fun c49433 => ?_)
        refine ev_iconst ?_
        exact ev_ret rfl (by decide) (by decide) ⟨_, rfl, by omega, by omega, g, k0⟩
      · refine ev_iload_n rfl ?_
        refine ev_iload_n rfl ?_
        refine ev_icmpgt f242_14 (fun c49434 => ?_) (fun c49434 => ?_)
        · refine ev_iconst ?_
          refine ev_ret rfl (by decide) (by decide) ?_
          show jEv _ _ _ _ _ _ _ (_, [(2, 42), (0, a1), (0, a2), (9, 0), (9, 0), (9, 0), (9, 0)], [(0, 0)], _, _, _)
          refine ev_ifne f349_22 (fun c49435 => absurd c49435 (by omega)) (fun c49435 => ?_)
          refine ev_iconst ?_
          exact ev_ret rfl (by decide) (by decide) ⟨_, rfl, by omega, by omega, g, k0⟩
        · refine ev_iconst ?_
          refine ev_goto f242_15 ?_
          refine ev_ret rfl (by decide) (by decide) ?_
          show jEv _ _ _ _ _ _ _ (_, [(2, 42), (0, a1), (0, a2), (9, 0), (9, 0), (9, 0), (9, 0)], [(0, 1)], _, _, _)
          refine ev_ifne f349_22 (fun c49436 => ?_) (fun c49436 => absurd c49436 (by omega))
          refine ev_iload_n rfl ?_
          refine ev_iconst ?_
          refine ev_icmpne f349_39 (fun c49437 => ?_) (fun c49437 => ?_)
          · refine ev_aload_n rfl ?_
            obtain ⟨v49438, ev49438, lv49438, uv49438⟩ := g.rd ad42 (show 53 < 66 by decide) rf42_53
            refine g_getv (r := 42) (v := v49438) g ad42 (by decide) ft12_53 ev49438 ?_
            refine ev_iconst ?_
            refine ev_icmpge f349_50 (fun c49439 => ?_) (fun c49439 => ?_)
            · refine ev_iconst ?_
              refine ev_istore_n (L' := [(2, 42), (0, a1), (0, a2), (0, 0), (9, 0), (9, 0), (9, 0)]) (Nat.le_of_ble_eq_true rfl) rfl ?_
              refine ev_iconst ?_
              refine ev_istore (L' := [(2, 42), (0, a1), (0, a2), (0, 0), (0, (-1)), (9, 0), (9, 0)]) (Nat.le_of_ble_eq_true rfl) rfl ?_
              refine ev_iconst ?_
              refine ev_istore (L' := [(2, 42), (0, a1), (0, a2), (0, 0), (0, (-1)), (0, 0), (9, 0)]) (Nat.le_of_ble_eq_true rfl) rfl ?_
              exact (s349_l la1 ua1 la2 ua2 204) _ _ _ _ _ g k0 (by omega) (by omega) (by omega) (by omega) (by omega) (by omega) (by omega) (by omega) (by omega) (by omega) (by omega)
            · refine ev_bipush ?_
              exact ev_ret rfl (by decide) (by decide) ⟨_, rfl, by omega, by omega, g, k0⟩
          · refine ev_aload_n rfl ?_
            obtain ⟨v49440, ev49440, lv49440, uv49440⟩ := g.rd ad42 (show 53 < 66 by decide) rf42_53
            refine g_getv (r := 42) (v := v49440) g ad42 (by decide) ft12_53 ev49440 ?_
            refine ev_istore_n (L' := [(2, 42), (0, a1), (0, a2), (0, v49440), (9, 0), (9, 0), (9, 0)]) (Nat.le_of_ble_eq_true rfl) rfl ?_
            refine ev_aload_n rfl ?_
            refine ev_iconst ?_
            refine g_putf (r := 42) g ad42 (by decide) ft12_53 (by decide) (fun e => absurd e nz12_53) rf42_53 (by decide) (by omega) (by omega) (fun h49441 e49441 g49441 => ?_)
            have k49441 := k0.wr e49441 rfl
            refine ev_iload_n rfl ?_
            exact ev_ret rfl (by decide) (by decide) ⟨_, rfl, by omega, by omega, g49441, k49441⟩
/-! 351 day -/
set_option maxHeartbeats 4000000 in
theorem s351 {G : GH} {h : JH} (g : Gd G h) {a1 : Int} (la1 : (-2147483648) ≤ a1) (ua1 : a1 ≤ 2147483647) {a2 : Int} (la2 : (-2147483648) ≤ a2) (ua2 : a2 ≤ 2147483647) {a3 : Int} (la3 : (-2147483648) ≤ a3) (ua3 : a3 ≤ 2147483647) {a4 : Int} (la4 : (-2147483648) ≤ a4) (ua4 : a4 ≤ 2147483647) : jOk 3 0 0 351 [(2, 42), (0, a1), (0, a2), (0, a3), (0, a4)] h (PI G [(74, 0), (75, 0), (76, 0)] h 0 (-1) 1) := by
  refine ⟨by decide, by rw [ml351]; exact Nat.le_of_ble_eq_true rfl, ?_⟩
  rw [ml351, pp351]
  show jEv _ none _ c351_0 0 0 _ (c351_0, [(2, 42), (0, a1), (0, a2), (0, a3), (0, a4)], [], h, 0, 0)
  have k0 := Kp.rf [(74, 0), (75, 0), (76, 0)] h
  refine ev_iload_n rfl ?_
  refine ev_iconst ?_
  refine ev_bipush ?_
  refine ev_in (d := 1) (a := 0) (b := 0) (cd' := c242_0) (m := 3) (L0 := [(0, a1), (0, 0), (0, 19)]) (jcall_s (A := [(0, 19), (0, 0), (0, a1)]) (S' := []) (by decide) rfl (Nat.le_of_ble_eq_true rfl)) (by decide) ml242 pp242 (Nat.le_of_ble_eq_true rfl) rfl (by decide) (by decide) ?_
  refine ev_iload_n rfl ?_
  refine ev_iload_n rfl ?_
  refine ev_icmplt f242_14 (fun c49502 => ?_) (fun c49502 => ?_)
  · refine ev_iconst ?_
    refine ev_ret rfl (by decide) (by decide) ?_
    show jEv _ _ _ _ _ _ _ (_, [(2, 42), (0, a1), (0, a2), (0, a3), (0, a4)], [(0, 0)], _, _, _)
    refine ev_ifeq f351_20 (fun c49503 => ?_) (fun c49503 => absurd c49503 (by omega))
    refine ev_iconst ?_
    exact ev_ret rfl (by decide) (by decide) ⟨_, rfl, by omega, by omega, g, k0⟩
  · refine ev_iload_n rfl ?_
    refine ev_iload_n rfl ?_
    refine ev_icmpgt f242_14 (fun c49504 => ?_) (fun c49504 => ?_)
    · refine ev_iconst ?_
      refine ev_ret rfl (by decide) (by decide) ?_
      show jEv _ _ _ _ _ _ _ (_, [(2, 42), (0, a1), (0, a2), (0, a3), (0, a4)], [(0, 0)], _, _, _)
      refine ev_ifeq f351_20 (fun c49505 => ?_) (fun c49505 => absurd c49505 (by omega))
      refine ev_iconst ?_
      exact ev_ret rfl (by decide) (by decide) ⟨_, rfl, by omega, by omega, g, k0⟩
    · refine ev_iconst ?_
      refine ev_goto f242_15 ?_
      refine ev_ret rfl (by decide) (by decide) ?_
      show jEv _ _ _ _ _ _ _ (_, [(2, 42), (0, a1), (0, a2), (0, a3), (0, a4)], [(0, 1)], _, _, _)
      refine ev_ifeq f351_20 (fun c49506 => absurd c49506 (by omega)) (fun c49506 => ?_)
      refine ev_iload_n rfl ?_
      refine ev_iload_n rfl ?_
      refine ev_iload rfl ?_
      refine ev_in (d := 1) (a := 0) (b := 0) (cd' := c350_0) (m := 3) (L0 := [(0, a2), (0, a3), (0, a4)]) (jcall_s (A := [(0, a4), (0, a3), (0, a2)]) (S' := []) (by decide) rfl (Nat.le_of_ble_eq_true rfl)) (by decide) ml350 pp350 (Nat.le_of_ble_eq_true rfl) rfl (by decide) (by decide) ?_
      refine ev_iload_n rfl ?_
      refine ev_iconst ?_
      refine ev_sipush ?_
      refine ev_in (d := 0) (a := 0) (b := 0) (cd' := c242_0) (m := 3) (L0 := [(0, a2), (0, 0), (0, 999)]) (jcall_s (A := [(0, 999), (0, 0), (0, a2)]) (S' := []) (by decide) rfl (Nat.le_of_ble_eq_true rfl)) (by decide) ml242 pp242 (Nat.le_of_ble_eq_true rfl) rfl (by decide) (by decide) ?_
      refine ev_iload_n rfl ?_
      refine ev_iload_n rfl ?_
      refine ev_icmplt f242_14 (fun c49507 => ?_) (fun c49507 => ?_)
      · refine ev_iconst ?_
        refine ev_ret rfl (by decide) (by decide) ?_
        show jEv _ _ _ _ _ _ _ (_, [(0, a2), (0, a3), (0, a4)], [(0, 0)], _, _, _)
        refine ev_ifeq f350_35 (fun c49508 => ?_) (fun c49508 => absurd c49508 (by omega))
        refine ev_iconst ?_
        refine ev_ret rfl (by decide) (by decide) ?_
        show jEv _ _ _ _ _ _ _ (_, [(2, 42), (0, a1), (0, a2), (0, a3), (0, a4)], [(0, 0)], _, _, _)
        refine ev_ifne f351_22 (fun c49509 => absurd c49509 (by omega)) (fun c49509 => ?_)
        refine ev_iconst ?_
        exact ev_ret rfl (by decide) (by decide) ⟨_, rfl, by omega, by omega, g, k0⟩
      · refine ev_iload_n rfl ?_
        refine ev_iload_n rfl ?_
        refine ev_icmpgt f242_14 (fun c49510 => ?_) (fun c49510 => ?_)
        · refine ev_iconst ?_
          refine ev_ret rfl (by decide) (by decide) ?_
          show jEv _ _ _ _ _ _ _ (_, [(0, a2), (0, a3), (0, a4)], [(0, 0)], _, _, _)
          refine ev_ifeq f350_35 (fun c49511 => ?_) (fun c49511 => absurd c49511 (by omega))
          refine ev_iconst ?_
          refine ev_ret rfl (by decide) (by decide) ?_
          show jEv _ _ _ _ _ _ _ (_, [(2, 42), (0, a1), (0, a2), (0, a3), (0, a4)], [(0, 0)], _, _, _)
          refine ev_ifne f351_22 (fun c49512 => absurd c49512 (by omega)) (fun c49512 => ?_)
          refine ev_iconst ?_
          exact ev_ret rfl (by decide) (by decide) ⟨_, rfl, by omega, by omega, g, k0⟩
        · refine ev_iconst ?_
          refine ev_goto f242_15 ?_
          refine ev_ret rfl (by decide) (by decide) ?_
          show jEv _ _ _ _ _ _ _ (_, [(0, a2), (0, a3), (0, a4)], [(0, 1)], _, _, _)
          refine ev_ifeq f350_35 (fun c49513 => absurd c49513 (by omega)) (fun c49513 => ?_)
          refine ev_iload_n rfl ?_
          refine ev_iconst ?_
          refine ev_bipush ?_
          refine ev_in (d := 0) (a := 0) (b := 0) (cd' := c242_0) (m := 3) (L0 := [(0, a3), (0, 0), (0, 100)]) (jcall_s (A := [(0, 100), (0, 0), (0, a3)]) (S' := []) (by decide) rfl (Nat.le_of_ble_eq_true rfl)) (by decide) ml242 pp242 (Nat.le_of_ble_eq_true rfl) rfl (by decide) (by decide) ?_
          refine ev_iload_n rfl ?_
          refine ev_iload_n rfl ?_
          refine ev_icmplt f242_14 (fun c49514 => ?_) (fun c49514 => ?_)
          · refine ev_iconst ?_
            refine ev_ret rfl (by decide) (by decide) ?_
            show jEv _ _ _ _ _ _ _ (_, [(0, a2), (0, a3), (0, a4)], [(0, 0)], _, _, _)
            refine ev_ifeq f350_35 (fun c49515 => ?_) (fun c49515 => absurd c49515 (by omega))
            refine ev_iconst ?_
            refine ev_ret rfl (by decide) (by decide) ?_
            show jEv _ _ _ _ _ _ _ (_, [(2, 42), (0, a1), (0, a2), (0, a3), (0, a4)], [(0, 0)], _, _, _)
            refine ev_ifne f351_22 (fun c49516 => absurd c49516 (by omega)) (fun c49516 => ?_)
            refine ev_iconst ?_
            exact ev_ret rfl (by decide) (by decide) ⟨_, rfl, by omega, by omega, g, k0⟩
          · refine ev_iload_n rfl ?_
            refine ev_iload_n rfl ?_
            refine ev_icmpgt f242_14 (fun c49517 => ?_) (fun c49517 => ?_)
            · refine ev_iconst ?_
              refine ev_ret rfl (by decide) (by decide) ?_
              show jEv _ _ _ _ _ _ _ (_, [(0, a2), (0, a3), (0, a4)], [(0, 0)], _, _, _)
              refine ev_ifeq f350_35 (fun c49518 => ?_) (fun c49518 => absurd c49518 (by omega))
              refine ev_iconst ?_
              refine ev_ret rfl (by decide) (by decide) ?_
              show jEv _ _ _ _ _ _ _ (_, [(2, 42), (0, a1), (0, a2), (0, a3), (0, a4)], [(0, 0)], _, _, _)
              refine ev_ifne f351_22 (fun c49519 => absurd c49519 (by omega)) (fun c49519 => ?_)
              refine ev_iconst ?_
              exact ev_ret rfl (by decide) (by decide) ⟨_, rfl, by omega, by omega, g, k0⟩
            · refine ev_iconst ?_
              refine ev_goto f242_15 ?_
              refine ev_ret rfl (by decide) (by decide) ?_
              show jEv _ _ _ _ _ _ _ (_, [(0, a2), (0, a3), (0, a4)], [(0, 1)], _, _, _)
              refine ev_ifeq f350_35 (fun c49520 => absurd c49520 (by omega)) (fun c49520 => ?_)
              refine ev_iload_n rfl ?_
              refine ev_iconst ?_
              refine ev_bipush ?_
              refine ev_in (d := 0) (a := 0) (b := 0) (cd' := c242_0) (m := 3) (L0 := [(0, a4), (0, 0), (0, 99)]) (jcall_s (A := [(0, 99), (0, 0), (0, a4)]) (S' := []) (by decide) rfl (Nat.le_of_ble_eq_true rfl)) (by decide) ml242 pp242 (Nat.le_of_ble_eq_true rfl) rfl (by decide) (by decide) ?_
              refine ev_iload_n rfl ?_
              refine ev_iload_n rfl ?_
              refine ev_icmplt f242_14 (fun c49521 => ?_) (fun c49521 => ?_)
              · refine ev_iconst ?_
                refine ev_ret rfl (by decide) (by decide) ?_
                show jEv _ _ _ _ _ _ _ (_, [(0, a2), (0, a3), (0, a4)], [(0, 0)], _, _, _)
                refine ev_ifeq f350_35 (fun c49522 => ?_) (fun c49522 => absurd c49522 (by omega))
                refine ev_iconst ?_
                refine ev_ret rfl (by decide) (by decide) ?_
                show jEv _ _ _ _ _ _ _ (_, [(2, 42), (0, a1), (0, a2), (0, a3), (0, a4)], [(0, 0)], _, _, _)
                refine ev_ifne f351_22 (fun c49523 => absurd c49523 (by omega)) (fun c49523 => ?_)
                refine ev_iconst ?_
                exact ev_ret rfl (by decide) (by decide) ⟨_, rfl, by omega, by omega, g, k0⟩
              · refine ev_iload_n rfl ?_
                refine ev_iload_n rfl ?_
                refine ev_icmpgt f242_14 (fun c49524 => ?_) (fun c49524 => ?_)
                · refine ev_iconst ?_
                  refine ev_ret rfl (by decide) (by decide) ?_
                  show jEv _ _ _ _ _ _ _ (_, [(0, a2), (0, a3), (0, a4)], [(0, 0)], _, _, _)
                  refine ev_ifeq f350_35 (fun c49525 => ?_) (fun c49525 => absurd c49525 (by omega))
                  refine ev_iconst ?_
                  refine ev_ret rfl (by decide) (by decide) ?_
                  show jEv _ _ _ _ _ _ _ (_, [(2, 42), (0, a1), (0, a2), (0, a3), (0, a4)], [(0, 0)], _, _, _)
                  refine ev_ifne f351_22 (fun c49526 => absurd c49526 (by omega)) (fun c49526 => ?_)
                  refine ev_iconst ?_
                  exact ev_ret rfl (by decide) (by decide) ⟨_, rfl, by omega, by omega, g, k0⟩
                · refine ev_iconst ?_
                  refine ev_goto f242_15 ?_
                  refine ev_ret rfl (by decide) (by decide) ?_
                  show jEv _ _ _ _ _ _ _ (_, [(0, a2), (0, a3), (0, a4)], [(0, 1)], _, _, _)
                  refine ev_ifeq f350_35 (fun c49527 => absurd c49527 (by omega)) (fun c49527 => ?_)
                  refine ev_iconst ?_
                  refine ev_goto f350_36 ?_
                  refine ev_ret rfl (by decide) (by decide) ?_
                  show jEv _ _ _ _ _ _ _ (_, [(2, 42), (0, a1), (0, a2), (0, a3), (0, a4)], [(0, 1)], _, _, _)
                  refine ev_ifne f351_22 (fun c49528 => ?_) (fun c49528 => absurd c49528 (by omega))
                  refine ev_aload_n rfl ?_
                  refine g_getp (r := 42) (c := 74) g ad42 (by decide) (by decide) rf42_56 ft12_56 ?_
                  refine ev_iload_n rfl ?_
                  refine ev_iload_n rfl ?_
                  refine g_iast g ad74 rt74 (fun _ => rfl) (by omega) (by omega) (by omega) (by omega) (fun h49529 e49529 g49529 => ?_)
                  have k49529 := k0.wr e49529 rfl
                  refine ev_aload_n rfl ?_
                  refine g_getp (r := 42) (c := 75) g49529 ad42 (by decide) (by decide) rf42_57 ft12_57 ?_
                  refine ev_iload_n rfl ?_
                  refine ev_iload_n rfl ?_
                  refine g_iast g49529 ad75 rt75 (fun _ => rfl) (by omega) (by omega) (by omega) (by omega) (fun h49530 e49530 g49530 => ?_)
                  have k49530 := k49529.wr e49530 rfl
                  refine ev_aload_n rfl ?_
                  refine g_getp (r := 42) (c := 76) g49530 ad42 (by decide) (by decide) rf42_58 ft12_58 ?_
                  refine ev_iload_n rfl ?_
                  refine ev_iload rfl ?_
                  refine g_iast g49530 ad76 rt76 (fun _ => rfl) (by omega) (by omega) (by omega) (by omega) (fun h49531 e49531 g49531 => ?_)
                  have k49531 := k49530.wr e49531 rfl
                  refine ev_iconst ?_
                  exact ev_ret rfl (by decide) (by decide) ⟨_, rfl, by omega, by omega, g49531, k49531⟩
/-! 352 days -/
set_option maxHeartbeats 4000000 in
theorem s352_l {G : GH} {h : JH} {a1 : Int} (la1 : (-2147483648) ≤ a1) (ua1 : a1 ≤ 2147483647) {a2 : Int} (la2 : (-2147483648) ≤ a2) (ua2 : a2 ≤ 2147483647) {a3 : Int} (la3 : (-2147483648) ≤ a3) (ua3 : a3 ≤ 2147483647) : ∀ N : Nat, (∀ (h1 : JH) (x4 : Int) (j5 j7 : AV), Gd G h1 → Kp [(74, 0), (75, 0), (76, 0)] h h1 → 0 ≤ a1 → a1 ≤ 5 → (-2147483648) ≤ a2 → a2 ≤ 2147483647 → 1 ≤ a3 → a3 ≤ 20 → 0 ≤ x4 → x4 ≤ 20 → ((-x4) + 20) < N → jEv (jOk 2) none (fun _ => 0) c352_0 0 0 (PI G [(74, 0), (75, 0), (76, 0)] h 0 (-12) 20) (c352_58, [(2, 42), (0, a1), (0, a2), (0, a3), (0, x4), j5, (9, 0), j7], [], h1, 0, 0)) := by
  intro N
  induction N with
  | zero => exact fun h1 x4 j5 j7 g1 k1 b0 b1 b2 b3 b4 b5 b6 b7 hm => absurd hm (by omega)
  | succ N ih =>
    show _
    intro h1 x4 j5 j7 g1 k1 b0 b1 b2 b3 b4 b5 b6 b7 hm
    refine ev_iload rfl ?_
    refine ev_iload_n rfl ?_
    refine ev_icmpge f352_203 (fun c50246 => ?_) (fun c50246 => ?_)
    · refine ev_iload_n rfl ?_
      exact ev_ret rfl (by decide) (by decide) ⟨_, rfl, by omega, by omega, g1, k1⟩
    · refine ev_iload_n rfl ?_
      refine ev_i2l ?_
      refine ev_iconst ?_
      refine ev_iload rfl ?_
      refine ev_imul (r := (3 * x4)) (by unfold w32; omega) ?_
      refine ev_i2l ?_
      refine ev_ladd (r := (a2 + 3 * x4)) (by unfold w64; omega) ?_
      refine ev_lstore (L' := [(2, 42), (0, a1), (0, a2), (0, a3), (0, x4), (1, (a2 + 3 * x4)), (9, 0), j7]) (Nat.le_of_ble_eq_true rfl) rfl ?_
      refine ev_lload rfl ?_
      refine ev_lconst ?_
      refine ev_lcmp ?_
      refine ev_iflt f352_98 (fun c50247 => ?_) (fun c50247 => ?_)
      · have c50247b := jcmpL_lt c50247
        refine ev_iload rfl ?_
        exact ev_ret rfl (by decide) (by decide) ⟨_, rfl, by omega, by omega, g1, k1⟩
      · have c50247b := jcmpL_ltN c50247
        refine ev_lload rfl ?_
        refine ev_ldc2_w ?_
        refine ev_ladd (r := (a2 + 3 * x4 + 2)) (by unfold w64; omega) ?_
        refine ev_aload_n rfl ?_
        refine g_getp (r := 42) (c := 80) g1 ad42 (by decide) (by decide) rf42_63 ft12_63 ?_
        refine ev_iload_n rfl ?_
        refine g_iald g1 ad80 rt80 (by omega) (by omega) (fun v50248 ev50248 lv50248 uv50248 => ?_)
        refine ev_i2l ?_
        refine ev_lcmp ?_
        refine ev_iflt f352_101 (fun c50249 => ?_) (fun c50249 => ?_)
        · have c50249b := jcmpL_lt c50249
          refine ev_bipush ?_
          refine ev_iload_n rfl ?_
          refine ev_imul (r := (60 * a1)) (by unfold w32; omega) ?_
          refine ev_lload rfl ?_
          refine ev_l2i (r := (a2 + 3 * x4)) (by unfold w32; omega) ?_
          refine ev_iadd (r := (60 * a1 + a2 + 3 * x4)) (by unfold w32; omega) ?_
          refine ev_istore (L' := [(2, 42), (0, a1), (0, a2), (0, a3), (0, x4), (1, (a2 + 3 * x4)), (9, 0), (0, (60 * a1 + a2 + 3 * x4))]) (Nat.le_of_ble_eq_true rfl) rfl ?_
          refine ev_aload_n rfl ?_
          refine g_getp (r := 42) (c := 81) g1 ad42 (by decide) (by decide) rf42_64 ft12_64 ?_
          refine ev_iload rfl ?_
          refine g_lald g1 ad81 rt81 (by omega) (by omega) (fun v50250 ev50250 lv50250 uv50250 => ?_)
          refine g_l2iG (fun v50251 ev50251 lv50251 uv50251 => ?_)
          refine ev_aload_n rfl ?_
          refine g_getp (r := 42) (c := 81) g1 ad42 (by decide) (by decide) rf42_64 ft12_64 ?_
          refine ev_iload rfl ?_
          refine ev_iconst ?_
          refine ev_iadd (r := (60 * a1 + a2 + 3 * x4 + 1)) (by unfold w32; omega) ?_
          refine g_lald g1 ad81 rt81 (by omega) (by omega) (fun v50252 ev50252 lv50252 uv50252 => ?_)
          refine g_l2iG (fun v50253 ev50253 lv50253 uv50253 => ?_)
          refine ev_aload_n rfl ?_
          refine g_getp (r := 42) (c := 81) g1 ad42 (by decide) (by decide) rf42_64 ft12_64 ?_
          refine ev_iload rfl ?_
          refine ev_iconst ?_
          refine ev_iadd (r := (60 * a1 + a2 + 3 * x4 + 2)) (by unfold w32; omega) ?_
          refine g_lald g1 ad81 rt81 (by omega) (by omega) (fun v50254 ev50254 lv50254 uv50254 => ?_)
          refine g_l2iG (fun v50255 ev50255 lv50255 uv50255 => ?_)
          refine ev_in (d := 1) (a := 0) (b := 0) (cd' := c350_0) (m := 3) (L0 := [(0, v50251), (0, v50253), (0, v50255)]) (jcall_s (A := [(0, v50255), (0, v50253), (0, v50251)]) (S' := []) (by decide) rfl (Nat.le_of_ble_eq_true rfl)) (by decide) ml350 pp350 (Nat.le_of_ble_eq_true rfl) rfl (by decide) (by decide) ?_
          refine ev_iload_n rfl ?_
          refine ev_iconst ?_
          refine ev_sipush ?_
          refine ev_in (d := 0) (a := 0) (b := 0) (cd' := c242_0) (m := 3) (L0 := [(0, v50251), (0, 0), (0, 999)]) (jcall_s (A := [(0, 999), (0, 0), (0, v50251)]) (S' := []) (by decide) rfl (Nat.le_of_ble_eq_true rfl)) (by decide) ml242 pp242 (Nat.le_of_ble_eq_true rfl) rfl (by decide) (by decide) ?_
          refine ev_iload_n rfl ?_
          refine ev_iload_n rfl ?_
          refine ev_icmplt f242_14 (fun c50256 => ?_) (fun c50256 => ?_)
          · refine ev_iconst ?_
            refine ev_ret rfl (by decide) (by decide) ?_
            show jEv _ _ _ _ _ _ _ (_, [(0, v50251), (0, v50253), (0, v50255)], [(0, 0)], _, _, _)
            refine ev_ifeq f350_35 (fun c50257 => ?_) (fun c50257 => absurd c50257 (by omega))
            refine ev_iconst ?_
            refine ev_ret rfl (by decide) (by decide) ?_
            show jEv _ _ _ _ _ _ _ (_, [(2, 42), (0, a1), (0, a2), (0, a3), (0, x4), (1, (a2 + 3 * x4)), (9, 0), (0, (60 * a1 + a2 + 3 * x4))], [(0, 0)], _, _, _)
            refine ev_ifne f352_148 (fun c50258 => absurd c50258 (by omega)) (fun c50258 => ?_)
            refine ev_iload rfl ?_
            exact ev_ret rfl (by decide) (by decide) ⟨_, rfl, by omega, by omega, g1, k1⟩
          · refine ev_iload_n rfl ?_
            refine ev_iload_n rfl ?_
            refine ev_icmpgt f242_14 (fun c50259 => ?_) (fun c50259 => ?_)
            · refine ev_iconst ?_
              refine ev_ret rfl (by decide) (by decide) ?_
              show jEv _ _ _ _ _ _ _ (_, [(0, v50251), (0, v50253), (0, v50255)], [(0, 0)], _, _, _)
              refine ev_ifeq f350_35 (fun c50260 => ?_) (fun c50260 => absurd c50260 (by omega))
              refine ev_iconst ?_
              refine ev_ret rfl (by decide) (by decide) ?_
              show jEv _ _ _ _ _ _ _ (_, [(2, 42), (0, a1), (0, a2), (0, a3), (0, x4), (1, (a2 + 3 * x4)), (9, 0), (0, (60 * a1 + a2 + 3 * x4))], [(0, 0)], _, _, _)
              refine ev_ifne f352_148 (fun c50261 => absurd c50261 (by omega)) (fun c50261 => ?_)
              refine ev_iload rfl ?_
              exact ev_ret rfl (by decide) (by decide) ⟨_, rfl, by omega, by omega, g1, k1⟩
            · refine ev_iconst ?_
              refine ev_goto f242_15 ?_
              refine ev_ret rfl (by decide) (by decide) ?_
              show jEv _ _ _ _ _ _ _ (_, [(0, v50251), (0, v50253), (0, v50255)], [(0, 1)], _, _, _)
              refine ev_ifeq f350_35 (fun c50262 => absurd c50262 (by omega)) (fun c50262 => ?_)
              refine ev_iload_n rfl ?_
              refine ev_iconst ?_
              refine ev_bipush ?_
              refine ev_in (d := 0) (a := 0) (b := 0) (cd' := c242_0) (m := 3) (L0 := [(0, v50253), (0, 0), (0, 100)]) (jcall_s (A := [(0, 100), (0, 0), (0, v50253)]) (S' := []) (by decide) rfl (Nat.le_of_ble_eq_true rfl)) (by decide) ml242 pp242 (Nat.le_of_ble_eq_true rfl) rfl (by decide) (by decide) ?_
              refine ev_iload_n rfl ?_
              refine ev_iload_n rfl ?_
              refine ev_icmplt f242_14 (fun c50263 => ?_) (fun c50263 => ?_)
              · refine ev_iconst ?_
                refine ev_ret rfl (by decide) (by decide) ?_
                show jEv _ _ _ _ _ _ _ (_, [(0, v50251), (0, v50253), (0, v50255)], [(0, 0)], _, _, _)
                refine ev_ifeq f350_35 (fun c50264 => ?_) (fun c50264 => absurd c50264 (by omega))
                refine ev_iconst ?_
                refine ev_ret rfl (by decide) (by decide) ?_
                show jEv _ _ _ _ _ _ _ (_, [(2, 42), (0, a1), (0, a2), (0, a3), (0, x4), (1, (a2 + 3 * x4)), (9, 0), (0, (60 * a1 + a2 + 3 * x4))], [(0, 0)], _, _, _)
                refine ev_ifne f352_148 (fun c50265 => absurd c50265 (by omega)) (fun c50265 => ?_)
                refine ev_iload rfl ?_
                exact ev_ret rfl (by decide) (by decide) ⟨_, rfl, by omega, by omega, g1, k1⟩
              · refine ev_iload_n rfl ?_
                refine ev_iload_n rfl ?_
                refine ev_icmpgt f242_14 (fun c50266 => ?_) (fun c50266 => ?_)
                · refine ev_iconst ?_
                  refine ev_ret rfl (by decide) (by decide) ?_
                  show jEv _ _ _ _ _ _ _ (_, [(0, v50251), (0, v50253), (0, v50255)], [(0, 0)], _, _, _)
                  refine ev_ifeq f350_35 (fun c50267 => ?_) (fun c50267 => absurd c50267 (by omega))
                  refine ev_iconst ?_
                  refine ev_ret rfl (by decide) (by decide) ?_
                  show jEv _ _ _ _ _ _ _ (_, [(2, 42), (0, a1), (0, a2), (0, a3), (0, x4), (1, (a2 + 3 * x4)), (9, 0), (0, (60 * a1 + a2 + 3 * x4))], [(0, 0)], _, _, _)
                  refine ev_ifne f352_148 (fun c50268 => absurd c50268 (by omega)) (fun c50268 => ?_)
                  refine ev_iload rfl ?_
                  exact ev_ret rfl (by decide) (by decide) ⟨_, rfl, by omega, by omega, g1, k1⟩
                · refine ev_iconst ?_
                  refine ev_goto f242_15 ?_
                  refine ev_ret rfl (by decide) (by decide) ?_
                  show jEv _ _ _ _ _ _ _ (_, [(0, v50251), (0, v50253), (0, v50255)], [(0, 1)], _, _, _)
                  refine ev_ifeq f350_35 (fun c50269 => absurd c50269 (by omega)) (fun c50269 => ?_)
                  refine ev_iload_n rfl ?_
                  refine ev_iconst ?_
                  refine ev_bipush ?_
                  refine ev_in (d := 0) (a := 0) (b := 0) (cd' := c242_0) (m := 3) (L0 := [(0, v50255), (0, 0), (0, 99)]) (jcall_s (A := [(0, 99), (0, 0), (0, v50255)]) (S' := []) (by decide) rfl (Nat.le_of_ble_eq_true rfl)) (by decide) ml242 pp242 (Nat.le_of_ble_eq_true rfl) rfl (by decide) (by decide) ?_
                  refine ev_iload_n rfl ?_
                  refine ev_iload_n rfl ?_
                  refine ev_icmplt f242_14 (fun c50270 => ?_) (fun c50270 => ?_)
                  · refine ev_iconst ?_
                    refine ev_ret rfl (by decide) (by decide) ?_
                    show jEv _ _ _ _ _ _ _ (_, [(0, v50251), (0, v50253), (0, v50255)], [(0, 0)], _, _, _)
                    refine ev_ifeq f350_35 (fun c50271 => ?_) (fun c50271 => absurd c50271 (by omega))
                    refine ev_iconst ?_
                    refine ev_ret rfl (by decide) (by decide) ?_
                    show jEv _ _ _ _ _ _ _ (_, [(2, 42), (0, a1), (0, a2), (0, a3), (0, x4), (1, (a2 + 3 * x4)), (9, 0), (0, (60 * a1 + a2 + 3 * x4))], [(0, 0)], _, _, _)
                    refine ev_ifne f352_148 (fun c50272 => absurd c50272 (by omega)) (fun c50272 => ?_)
                    refine ev_iload rfl ?_
                    exact ev_ret rfl (by decide) (by decide) ⟨_, rfl, by omega, by omega, g1, k1⟩
                  · refine ev_iload_n rfl ?_
                    refine ev_iload_n rfl ?_
                    refine ev_icmpgt f242_14 (fun c50273 => ?_) (fun c50273 => ?_)
                    · refine ev_iconst ?_
                      refine ev_ret rfl (by decide) (by decide) ?_
                      show jEv _ _ _ _ _ _ _ (_, [(0, v50251), (0, v50253), (0, v50255)], [(0, 0)], _, _, _)
                      refine ev_ifeq f350_35 (fun c50274 => ?_) (fun c50274 => absurd c50274 (by omega))
                      refine ev_iconst ?_
                      refine ev_ret rfl (by decide) (by decide) ?_
                      show jEv _ _ _ _ _ _ _ (_, [(2, 42), (0, a1), (0, a2), (0, a3), (0, x4), (1, (a2 + 3 * x4)), (9, 0), (0, (60 * a1 + a2 + 3 * x4))], [(0, 0)], _, _, _)
                      refine ev_ifne f352_148 (fun c50275 => absurd c50275 (by omega)) (fun c50275 => ?_)
                      refine ev_iload rfl ?_
                      exact ev_ret rfl (by decide) (by decide) ⟨_, rfl, by omega, by omega, g1, k1⟩
                    · refine ev_iconst ?_
                      refine ev_goto f242_15 ?_
                      refine ev_ret rfl (by decide) (by decide) ?_
                      show jEv _ _ _ _ _ _ _ (_, [(0, v50251), (0, v50253), (0, v50255)], [(0, 1)], _, _, _)
                      refine ev_ifeq f350_35 (fun c50276 => absurd c50276 (by omega)) (fun c50276 => ?_)
                      refine ev_iconst ?_
                      refine ev_goto f350_36 ?_
                      refine ev_ret rfl (by decide) (by decide) ?_
                      show jEv _ _ _ _ _ _ _ (_, [(2, 42), (0, a1), (0, a2), (0, a3), (0, x4), (1, (a2 + 3 * x4)), (9, 0), (0, (60 * a1 + a2 + 3 * x4))], [(0, 1)], _, _, _)
                      refine ev_ifne f352_148 (fun c50277 => ?_) (fun c50277 => absurd c50277 (by omega))
                      refine ev_aload_n rfl ?_
                      refine g_getp (r := 42) (c := 74) g1 ad42 (by decide) (by decide) rf42_56 ft12_56 ?_
                      refine ev_iload rfl ?_
                      refine ev_aload_n rfl ?_
                      refine g_getp (r := 42) (c := 81) g1 ad42 (by decide) (by decide) rf42_64 ft12_64 ?_
                      refine ev_iload rfl ?_
                      refine g_laldv (v := v50250) g1 ad81 (by omega) (by omega) (ev50250) ?_
                      refine g_l2iG (fun v50278 ev50278 lv50278 uv50278 => ?_)
                      obtain rfl : v50251 = v50278 := by omega
                      refine g_iast g1 ad74 rt74 (fun _ => rfl) (by omega) (by omega) (by omega) (by omega) (fun h50279 e50279 g50279 => ?_)
                      have k50279 := k1.wr e50279 rfl
                      refine ev_aload_n rfl ?_
                      refine g_getp (r := 42) (c := 75) g50279 ad42 (by decide) (by decide) rf42_57 ft12_57 ?_
                      refine ev_iload rfl ?_
                      refine ev_aload_n rfl ?_
                      refine g_getp (r := 42) (c := 81) g50279 ad42 (by decide) (by decide) rf42_64 ft12_64 ?_
                      refine ev_iload rfl ?_
                      refine ev_iconst ?_
                      refine ev_iadd (r := (60 * a1 + a2 + 3 * x4 + 1)) (by unfold w32; omega) ?_
                      refine g_laldv (v := v50252) g50279 ad81 (by omega) (by omega) (((jw_ne e50279 (Or.inl (by decide))).trans ev50252)) ?_
                      refine g_l2iG (fun v50280 ev50280 lv50280 uv50280 => ?_)
                      obtain rfl : v50253 = v50280 := by omega
                      refine g_iast g50279 ad75 rt75 (fun _ => rfl) (by omega) (by omega) (by omega) (by omega) (fun h50281 e50281 g50281 => ?_)
                      have k50281 := k50279.wr e50281 rfl
                      refine ev_aload_n rfl ?_
                      refine g_getp (r := 42) (c := 76) g50281 ad42 (by decide) (by decide) rf42_58 ft12_58 ?_
                      refine ev_iload rfl ?_
                      refine ev_aload_n rfl ?_
                      refine g_getp (r := 42) (c := 81) g50281 ad42 (by decide) (by decide) rf42_64 ft12_64 ?_
                      refine ev_iload rfl ?_
                      refine ev_iconst ?_
                      refine ev_iadd (r := (60 * a1 + a2 + 3 * x4 + 2)) (by unfold w32; omega) ?_
                      refine g_laldv (v := v50254) g50281 ad81 (by omega) (by omega) (((jw_ne e50281 (Or.inl (by decide))).trans ((jw_ne e50279 (Or.inl (by decide))).trans ev50254))) ?_
                      refine g_l2iG (fun v50282 ev50282 lv50282 uv50282 => ?_)
                      obtain rfl : v50255 = v50282 := by omega
                      refine g_iast g50281 ad76 rt76 (fun _ => rfl) (by omega) (by omega) (by omega) (by omega) (fun h50283 e50283 g50283 => ?_)
                      have k50283 := k50281.wr e50283 rfl
                      refine ev_iinc (w := (x4 + 1)) (L' := [(2, 42), (0, a1), (0, a2), (0, a3), (0, (x4 + 1)), (1, (a2 + 3 * x4)), (9, 0), (0, (60 * a1 + a2 + 3 * x4))]) rfl (by unfold w32; omega) rfl ?_
                      refine ev_goto f352_58 ?_
                      exact ih _ _ _ _ g50283 k50283 (by omega) (by omega) (by omega) (by omega) (by omega) (by omega) (by omega) (by omega) (by omega)
        · have c50249b := jcmpL_ltN c50249
          refine ev_iload rfl ?_
          exact ev_ret rfl (by decide) (by decide) ⟨_, rfl, by omega, by omega, g1, k1⟩
set_option maxHeartbeats 4000000 in
theorem s352 {G : GH} {h : JH} (g : Gd G h) {a1 : Int} (la1 : (-2147483648) ≤ a1) (ua1 : a1 ≤ 2147483647) {a2 : Int} (la2 : (-2147483648) ≤ a2) (ua2 : a2 ≤ 2147483647) {a3 : Int} (la3 : (-2147483648) ≤ a3) (ua3 : a3 ≤ 2147483647) : jOk 3 0 0 352 [(2, 42), (0, a1), (0, a2), (0, a3)] h (PI G [(74, 0), (75, 0), (76, 0)] h 0 (-12) 20) := by
  refine ⟨by decide, by rw [ml352]; exact Nat.le_of_ble_eq_true rfl, ?_⟩
  rw [ml352, pp352]
  show jEv _ none _ c352_0 0 0 _ (c352_0, [(2, 42), (0, a1), (0, a2), (0, a3), (9, 0), (9, 0), (9, 0), (9, 0)], [], h, 0, 0)
  have k0 := Kp.rf [(74, 0), (75, 0), (76, 0)] h
  refine ev_iload_n rfl ?_
  refine ev_in (d := 1) (a := 0) (b := 0) (cd' := c370_0) (m := 1) (L0 := [(0, a1)]) (jcall_s (A := [(0, a1)]) (S' := []) (by decide) rfl (Nat.le_of_ble_eq_true rfl)) (by decide) ml370 pp370 (Nat.le_of_ble_eq_true rfl) rfl (by decide) (by decide) ?_
  refine ev_iload_n rfl ?_
  refine ev_iconst ?_
  refine ev_iconst ?_
  refine ev_in (d := 0) (a := 0) (b := 0) (cd' := c242_0) (m := 3) (L0 := [(0, a1), (0, 0), (0, 5)]) (jcall_s (A := [(0, 5), (0, 0), (0, a1)]) (S' := []) (by decide) rfl (Nat.le_of_ble_eq_true rfl)) (by decide) ml242 pp242 (Nat.le_of_ble_eq_true rfl) rfl (by decide) (by decide) ?_
  refine ev_iload_n rfl ?_
  refine ev_iload_n rfl ?_
  refine ev_icmplt f242_14 (fun c50284 => ?_) (fun c50284 => ?_)
  · refine ev_iconst ?_
    refine ev_ret rfl (by decide) (by decide) ?_
    show jEv _ _ _ _ _ _ _ (_, [(0, a1)], [(0, 0)], _, _, _)
    refine ev_ret rfl (by decide) (by decide) ?_
    show jEv _ _ _ _ _ _ _ (_, [(2, 42), (0, a1), (0, a2), (0, a3), (9, 0), (9, 0), (9, 0), (9, 0)], [(0, 0)], _, _, _)
    refine ev_ifeq f352_17 (fun c50285 => ?_) (fun c50285 => absurd c50285 (by omega))
    refine ev_iconst ?_
    exact ev_ret rfl (by decide) (by decide) ⟨_, rfl, by omega, by omega, g, k0⟩
  · refine ev_iload_n rfl ?_
    refine ev_iload_n rfl ?_
    refine ev_icmpgt f242_14 (fun c50286 => ?_) (fun c50286 => ?_)
    · refine ev_iconst ?_
      refine ev_ret rfl (by decide) (by decide) ?_
      show jEv _ _ _ _ _ _ _ (_, [(0, a1)], [(0, 0)], _, _, _)
      refine ev_ret rfl (by decide) (by decide) ?_
      show jEv _ _ _ _ _ _ _ (_, [(2, 42), (0, a1), (0, a2), (0, a3), (9, 0), (9, 0), (9, 0), (9, 0)], [(0, 0)], _, _, _)
      refine ev_ifeq f352_17 (fun c50287 => ?_) (fun c50287 => absurd c50287 (by omega))
      refine ev_iconst ?_
      exact ev_ret rfl (by decide) (by decide) ⟨_, rfl, by omega, by omega, g, k0⟩
    · refine ev_iconst ?_
      refine ev_goto f242_15 ?_
      refine ev_ret rfl (by decide) (by decide) ?_
      show jEv _ _ _ _ _ _ _ (_, [(0, a1)], [(0, 1)], _, _, _)
      refine ev_ret rfl (by decide) (by decide) ?_
      show jEv _ _ _ _ _ _ _ (_, [(2, 42), (0, a1), (0, a2), (0, a3), (9, 0), (9, 0), (9, 0), (9, 0)], [(0, 1)], _, _, _)
      refine ev_ifeq f352_17 (fun c50288 => absurd c50288 (by omega)) (fun c50288 => ?_)
      refine ev_iload_n rfl ?_
      refine ev_iconst ?_
      refine ev_bipush ?_
      refine ev_in (d := 1) (a := 0) (b := 0) (cd' := c242_0) (m := 3) (L0 := [(0, a3), (0, 1), (0, 20)]) (jcall_s (A := [(0, 20), (0, 1), (0, a3)]) (S' := []) (by decide) rfl (Nat.le_of_ble_eq_true rfl)) (by decide) ml242 pp242 (Nat.le_of_ble_eq_true rfl) rfl (by decide) (by decide) ?_
      refine ev_iload_n rfl ?_
      refine ev_iload_n rfl ?_
      refine ev_icmplt f242_14 (fun c50289 => ?_) (fun c50289 => ?_)
      · refine ev_iconst ?_
        refine ev_ret rfl (by decide) (by decide) ?_
        show jEv _ _ _ _ _ _ _ (_, [(2, 42), (0, a1), (0, a2), (0, a3), (9, 0), (9, 0), (9, 0), (9, 0)], [(0, 0)], _, _, _)
        refine ev_ifne f352_19 (fun c50290 => absurd c50290 (by omega)) (fun c50290 => ?_)
        refine ev_iconst ?_
        exact ev_ret rfl (by decide) (by decide) ⟨_, rfl, by omega, by omega, g, k0⟩
      · refine ev_iload_n rfl ?_
        refine ev_iload_n rfl ?_
        refine ev_icmpgt f242_14 (fun c50291 => ?_) (fun c50291 => ?_)
        · refine ev_iconst ?_
          refine ev_ret rfl (by decide) (by decide) ?_
          show jEv _ _ _ _ _ _ _ (_, [(2, 42), (0, a1), (0, a2), (0, a3), (9, 0), (9, 0), (9, 0), (9, 0)], [(0, 0)], _, _, _)
          refine ev_ifne f352_19 (fun c50292 => absurd c50292 (by omega)) (fun c50292 => ?_)
          refine ev_iconst ?_
          exact ev_ret rfl (by decide) (by decide) ⟨_, rfl, by omega, by omega, g, k0⟩
        · refine ev_iconst ?_
          refine ev_goto f242_15 ?_
          refine ev_ret rfl (by decide) (by decide) ?_
          show jEv _ _ _ _ _ _ _ (_, [(2, 42), (0, a1), (0, a2), (0, a3), (9, 0), (9, 0), (9, 0), (9, 0)], [(0, 1)], _, _, _)
          refine ev_ifne f352_19 (fun c50293 => ?_) (fun c50293 => absurd c50293 (by omega))
          refine ev_aload_n rfl ?_
          refine g_getp (r := 42) (c := 79) g ad42 (by decide) (by decide) rf42_62 ft12_62 ?_
          refine ev_iload_n rfl ?_
          refine g_iald g ad79 rt79 (by omega) (by omega) (fun v50294 ev50294 lv50294 uv50294 => ?_)
          refine ev_iconst ?_
          refine ev_icmpeq f352_43 (fun c50295 => ?_) (fun c50295 => ?_)
          · refine ev_aload_n rfl ?_
            refine g_getp (r := 42) (c := 79) g ad42 (by decide) (by decide) rf42_62 ft12_62 ?_
            refine ev_iload_n rfl ?_
            refine g_ialdv (v := v50294) g ad79 (by omega) (by omega) (ev50294) ?_
            refine ev_iconst ?_
            refine ev_icmpne f352_55 (fun c50296 => absurd c50296 (by omega)) (fun c50296 => ?_)
            refine ev_iconst ?_
            exact ev_ret rfl (by decide) (by decide) ⟨_, rfl, by omega, by omega, g, k0⟩
          · refine ev_aload_n rfl ?_
            refine g_getp (r := 42) (c := 79) g ad42 (by decide) (by decide) rf42_62 ft12_62 ?_
            refine ev_iload_n rfl ?_
            refine g_ialdv (v := v50294) g ad79 (by omega) (by omega) (ev50294) ?_
            refine ev_bipush ?_
            refine ev_icmpeq f352_43 (fun c50297 => ?_) (fun c50297 => ?_)
            · refine ev_aload_n rfl ?_
              refine g_getp (r := 42) (c := 79) g ad42 (by decide) (by decide) rf42_62 ft12_62 ?_
              refine ev_iload_n rfl ?_
              refine g_ialdv (v := v50294) g ad79 (by omega) (by omega) (ev50294) ?_
              refine ev_iconst ?_
              refine ev_icmpne f352_55 (fun c50298 => ?_) (fun c50298 => absurd c50298 (by omega))
              refine ev_iconst ?_
              refine ev_istore (L' := [(2, 42), (0, a1), (0, a2), (0, a3), (0, 0), (9, 0), (9, 0), (9, 0)]) (Nat.le_of_ble_eq_true rfl) rfl ?_
              exact (s352_l la1 ua1 la2 ua2 la3 ua3 42) _ _ _ _ g k0 (by omega) (by omega) (by omega) (by omega) (by omega) (by omega) (by omega) (by omega) (by omega)
            · refine ev_bipush ?_
              exact ev_ret rfl (by decide) (by decide) ⟨_, rfl, by omega, by omega, g, k0⟩
/-! 353 waits -/
set_option maxHeartbeats 4000000 in
theorem s353_l {G : GH} {h : JH} {a1 : Int} (la1 : (-2147483648) ≤ a1) (ua1 : a1 ≤ 2147483647) {a2 : Int} (la2 : (-2147483648) ≤ a2) (ua2 : a2 ≤ 2147483647) {a3 : Int} (la3 : (-2147483648) ≤ a3) (ua3 : a3 ≤ 2147483647) : ∀ N : Nat, (∀ (h1 : JH) (x4 x5 x6 x8 x10 : Int) (j11 j13 : AV), Gd G h1 → Kp [] h h1 → 0 ≤ a1 → a1 ≤ 1999 → (-999) ≤ a2 → a2 ≤ 999 → 0 ≤ a3 → a3 ≤ 1 → 0 ≤ x4 → x4 ≤ 19 → 1 ≤ x5 → x5 ≤ 20 → (-9223372036854775808) ≤ x6 → x6 ≤ 9223372036854775807 → (-9223372036854775808) ≤ x8 → x8 ≤ 9223372036854775807 → (-1) ≤ x10 → x10 ≤ 19 → (x10 + 1) < N → jEv (jOk 1) none (fun _ => 0) c353_0 0 0 (PI G [] h 1 (-9223372036854775808) 9223372036854775807) (c353_77, [(2, 42), (0, a1), (0, a2), (0, a3), (0, x4), (0, x5), (1, x6), (9, 0), (1, x8), (9, 0), (0, x10), j11, (9, 0), j13, (9, 0)], [], h1, 0, 0)) := by
  intro N
  induction N with
  | zero => exact fun h1 x4 x5 x6 x8 x10 j11 j13 g1 k1 b0 b1 b2 b3 b4 b5 b6 b7 b8 b9 b10 b11 b12 b13 b14 b15 hm => absurd hm (by omega)
  | succ N ih =>
    show _
    intro h1 x4 x5 x6 x8 x10 j11 j13 g1 k1 b0 b1 b2 b3 b4 b5 b6 b7 b8 b9 b10 b11 b12 b13 b14 b15 hm
    refine ev_iload rfl ?_
    refine ev_iload rfl ?_
    refine ev_icmplt f353_172 (fun c50437 => ?_) (fun c50437 => ?_)
    · refine ev_iload_n rfl ?_
      refine ev_iconst ?_
      refine ev_icmpne f353_180 (fun c50438 => ?_) (fun c50438 => ?_)
      · refine ev_lload rfl ?_
        refine g_lnegG (fun v50439 ev50439 lv50439 uv50439 => ?_)
        refine ev_ldc2_w ?_
        refine ev_call (jcall_s (A := [(1, 1000000), (1, v50439)]) (S' := []) (by decide) rfl (Nat.le_of_ble_eq_true rfl)) (jOk_le (by decide) (s378 g1 (by omega) (by omega) (by omega) (by omega))) (by decide) (by decide) (fun w50440 h50440 q50440 => ?_)
        obtain ⟨v50441, rfl, lv50441, uv50441, g50440, kk50440⟩ := q50440
        have k50440 := k1.tr kk50440 (by decide)
        show jEv _ _ _ _ _ _ _ (_, [(2, 42), (0, a1), (0, a2), (0, a3), (0, x4), (0, x5), (1, x6), (9, 0), (1, x8), (9, 0), (0, x10), j11, (9, 0), j13, (9, 0)], [(1, v50441)], _, _, _)
        refine g_lnegG (fun v50442 ev50442 lv50442 uv50442 => ?_)
        refine ev_lstore (L' := [(2, 42), (0, a1), (0, a2), (0, a3), (0, x4), (0, x5), (1, x6), (9, 0), (1, x8), (9, 0), (1, v50442), (9, 0), (9, 0), j13, (9, 0)]) (Nat.le_of_ble_eq_true rfl) rfl ?_
        refine ev_lload rfl ?_
        refine ev_lconst ?_
        refine ev_lcmp ?_
        refine ev_ifge f353_203 (fun c50443 => ?_) (fun c50443 => ?_)
        · have c50443b := jcmpL_ge c50443
          refine ev_lload rfl ?_
          refine ev_ldc2_w ?_
          refine ev_lcmp ?_
          refine ev_ifle f353_218 (fun c50444 => ?_) (fun c50444 => ?_)
          · have c50444b := jcmpL_le c50444
            refine ev_lload rfl ?_
            exact ev_ret rfl (by decide) (by decide) ⟨_, rfl, by omega, by omega, g50440, k50440⟩
          · have c50444b := jcmpL_leN c50444
            refine ev_ldc2_w ?_
            refine ev_goto f353_220 ?_
            exact ev_ret rfl (by decide) (by decide) ⟨_, rfl, by omega, by omega, g50440, k50440⟩
        · have c50443b := jcmpL_geN c50443
          refine ev_lconst ?_
          refine ev_goto f353_220 ?_
          exact ev_ret rfl (by decide) (by decide) ⟨_, rfl, by omega, by omega, g50440, k50440⟩
      · refine ev_lload rfl ?_
        exact ev_ret rfl (by decide) (by decide) ⟨_, rfl, by omega, by omega, g1, k1⟩
    · refine ev_lload rfl ?_
      refine ev_ldc2_w ?_
      refine ev_aload_n rfl ?_
      refine g_getp (r := 42) (c := 76) g1 ad42 (by decide) (by decide) rf42_58 ft12_58 ?_
      refine ev_iload rfl ?_
      refine g_iald g1 ad76 rt76 (by omega) (by omega) (fun v50445 ev50445 lv50445 uv50445 => ?_)
      refine ev_i2l ?_
      refine ev_lmul (r := (1000000 * v50445)) (by unfold w64; omega) ?_
      refine g_lsubG (fun v50446 ev50446 lv50446 uv50446 => ?_)
      refine ev_lstore (L' := [(2, 42), (0, a1), (0, a2), (0, a3), (0, x4), (0, x5), (1, x6), (9, 0), (1, v50446), (9, 0), (0, x10), j11, (9, 0), j13, (9, 0)]) (Nat.le_of_ble_eq_true rfl) rfl ?_
      refine ev_ldc2_w ?_
      refine ev_aload_n rfl ?_
      refine g_getp (r := 42) (c := 74) g1 ad42 (by decide) (by decide) rf42_56 ft12_56 ?_
      refine ev_iload rfl ?_
      refine g_iald g1 ad74 rt74 (by omega) (by omega) (fun v50447 ev50447 lv50447 uv50447 => ?_)
      refine ev_i2l ?_
      refine ev_lmul (r := (1000000 * v50447)) (by unfold w64; omega) ?_
      refine ev_lstore (L' := [(2, 42), (0, a1), (0, a2), (0, a3), (0, x4), (0, x5), (1, x6), (9, 0), (1, v50446), (9, 0), (0, x10), (1, (1000000 * v50447)), (9, 0), j13, (9, 0)]) (Nat.le_of_ble_eq_true rfl) rfl ?_
      refine ev_lload rfl ?_
      refine ev_lload rfl ?_
      refine ev_lcmp ?_
      refine ev_ifle f353_128 (fun c50448 => ?_) (fun c50448 => ?_)
      · have c50448b := jcmpL_le c50448
        refine ev_lload rfl ?_
        refine ev_lstore (L' := [(2, 42), (0, a1), (0, a2), (0, a3), (0, x4), (0, x5), (1, x6), (9, 0), (1, v50446), (9, 0), (0, x10), (1, (1000000 * v50447)), (9, 0), (1, v50446), (9, 0)]) (Nat.le_of_ble_eq_true rfl) rfl ?_
        refine ev_aload_n rfl ?_
        refine g_getp (r := 42) (c := 75) g1 ad42 (by decide) (by decide) rf42_57 ft12_57 ?_
        refine ev_iload rfl ?_
        refine g_iald g1 ad75 rt75 (by omega) (by omega) (fun v50449 ev50449 lv50449 uv50449 => ?_)
        refine ev_i2l ?_
        refine ev_lload rfl ?_
        refine g_lmulG (fun v50450 ev50450 lv50450 uv50450 => ?_)
        refine ev_bipush ?_
        refine ev_aload_n rfl ?_
        refine g_getp (r := 42) (c := 75) g1 ad42 (by decide) (by decide) rf42_57 ft12_57 ?_
        refine ev_iload rfl ?_
        refine g_ialdv (v := v50449) g1 ad75 (by omega) (by omega) (ev50449) ?_
        refine ev_isub (r := ((-v50449) + 100)) (by unfold w32; omega) ?_
        refine ev_i2l ?_
        refine ev_lload rfl ?_
        refine g_lmulG (fun v50451 ev50451 lv50451 uv50451 => ?_)
        refine g_laddG (fun v50452 ev50452 lv50452 uv50452 => ?_)
        refine ev_ldc2_w ?_
        refine ev_call (jcall_s (A := [(1, 100), (1, v50452)]) (S' := []) (by decide) rfl (Nat.le_of_ble_eq_true rfl)) (jOk_le (by decide) (s378 g1 (by omega) (by omega) (by omega) (by omega))) (by decide) (by decide) (fun w50453 h50453 q50453 => ?_)
        obtain ⟨v50454, rfl, lv50454, uv50454, g50453, kk50453⟩ := q50453
        have k50453 := k1.tr kk50453 (by decide)
        show jEv _ _ _ _ _ _ _ (_, [(2, 42), (0, a1), (0, a2), (0, a3), (0, x4), (0, x5), (1, x6), (9, 0), (1, v50446), (9, 0), (0, x10), (1, (1000000 * v50447)), (9, 0), (1, v50446), (9, 0)], [(1, v50454)], _, _, _)
        refine ev_lstore (L' := [(2, 42), (0, a1), (0, a2), (0, a3), (0, x4), (0, x5), (1, v50454), (9, 0), (1, v50446), (9, 0), (0, x10), (1, (1000000 * v50447)), (9, 0), (1, v50446), (9, 0)]) (Nat.le_of_ble_eq_true rfl) rfl ?_
        refine ev_iinc (w := (x10 - 1)) (L' := [(2, 42), (0, a1), (0, a2), (0, a3), (0, x4), (0, x5), (1, v50454), (9, 0), (1, v50446), (9, 0), (0, (x10 - 1)), (1, (1000000 * v50447)), (9, 0), (1, v50446), (9, 0)]) rfl (by unfold w32; omega) rfl ?_
        refine ev_goto f353_77 ?_
        exact ih _ _ _ _ _ _ _ _ g50453 k50453 (by omega) (by omega) (by omega) (by omega) (by omega) (by omega) (by omega) (by omega) (by omega) (by omega) (by omega) (by omega) (by omega) (by omega) (by omega) (by omega) (by omega)
      · have c50448b := jcmpL_leN c50448
        refine ev_lload rfl ?_
        refine ev_goto f353_130 ?_
        refine ev_lstore (L' := [(2, 42), (0, a1), (0, a2), (0, a3), (0, x4), (0, x5), (1, x6), (9, 0), (1, v50446), (9, 0), (0, x10), (1, (1000000 * v50447)), (9, 0), (1, (1000000 * v50447)), (9, 0)]) (Nat.le_of_ble_eq_true rfl) rfl ?_
        refine ev_aload_n rfl ?_
        refine g_getp (r := 42) (c := 75) g1 ad42 (by decide) (by decide) rf42_57 ft12_57 ?_
        refine ev_iload rfl ?_
        refine g_iald g1 ad75 rt75 (by omega) (by omega) (fun v50455 ev50455 lv50455 uv50455 => ?_)
        refine ev_i2l ?_
        refine ev_lload rfl ?_
        refine g_lmulB (a := 100) (b := 999000000) (a' := 0) (b' := 0) (by omega) (by omega) (by omega) (by omega) (by decide) (lo := 0) (hi := 99900000000) (by decide) (by decide) (fun v50456 ev50456 lv50456 uv50456 => ?_)
        refine ev_bipush ?_
        refine ev_aload_n rfl ?_
        refine g_getp (r := 42) (c := 75) g1 ad42 (by decide) (by decide) rf42_57 ft12_57 ?_
        refine ev_iload rfl ?_
        refine g_ialdv (v := v50455) g1 ad75 (by omega) (by omega) (ev50455) ?_
        refine ev_isub (r := ((-v50455) + 100)) (by unfold w32; omega) ?_
        refine ev_i2l ?_
        refine ev_lload rfl ?_
        refine g_lmulG (fun v50457 ev50457 lv50457 uv50457 => ?_)
        refine g_laddG (fun v50458 ev50458 lv50458 uv50458 => ?_)
        refine ev_ldc2_w ?_
        refine ev_call (jcall_s (A := [(1, 100), (1, v50458)]) (S' := []) (by decide) rfl (Nat.le_of_ble_eq_true rfl)) (jOk_le (by decide) (s378 g1 (by omega) (by omega) (by omega) (by omega))) (by decide) (by decide) (fun w50459 h50459 q50459 => ?_)
        obtain ⟨v50460, rfl, lv50460, uv50460, g50459, kk50459⟩ := q50459
        have k50459 := k1.tr kk50459 (by decide)
        show jEv _ _ _ _ _ _ _ (_, [(2, 42), (0, a1), (0, a2), (0, a3), (0, x4), (0, x5), (1, x6), (9, 0), (1, v50446), (9, 0), (0, x10), (1, (1000000 * v50447)), (9, 0), (1, (1000000 * v50447)), (9, 0)], [(1, v50460)], _, _, _)
        refine ev_lstore (L' := [(2, 42), (0, a1), (0, a2), (0, a3), (0, x4), (0, x5), (1, v50460), (9, 0), (1, v50446), (9, 0), (0, x10), (1, (1000000 * v50447)), (9, 0), (1, (1000000 * v50447)), (9, 0)]) (Nat.le_of_ble_eq_true rfl) rfl ?_
        refine ev_iinc (w := (x10 - 1)) (L' := [(2, 42), (0, a1), (0, a2), (0, a3), (0, x4), (0, x5), (1, v50460), (9, 0), (1, v50446), (9, 0), (0, (x10 - 1)), (1, (1000000 * v50447)), (9, 0), (1, (1000000 * v50447)), (9, 0)]) rfl (by unfold w32; omega) rfl ?_
        refine ev_goto f353_77 ?_
        exact ih _ _ _ _ _ _ _ _ g50459 k50459 (by omega) (by omega) (by omega) (by omega) (by omega) (by omega) (by omega) (by omega) (by omega) (by omega) (by omega) (by omega) (by omega) (by omega) (by omega) (by omega) (by omega)
set_option maxHeartbeats 4000000 in
theorem s353 {G : GH} {h : JH} (g : Gd G h) {a1 : Int} (la1 : (-2147483648) ≤ a1) (ua1 : a1 ≤ 2147483647) {a2 : Int} (la2 : (-2147483648) ≤ a2) (ua2 : a2 ≤ 2147483647) {a3 : Int} (la3 : (-2147483648) ≤ a3) (ua3 : a3 ≤ 2147483647) : jOk 2 0 0 353 [(2, 42), (0, a1), (0, a2), (0, a3)] h (PI G [] h 1 (-9223372036854775808) 9223372036854775807) := by
  refine ⟨by decide, by rw [ml353]; exact Nat.le_of_ble_eq_true rfl, ?_⟩
  rw [ml353, pp353]
  show jEv _ none _ c353_0 0 0 _ (c353_0, [(2, 42), (0, a1), (0, a2), (0, a3), (9, 0), (9, 0), (9, 0), (9, 0), (9, 0), (9, 0), (9, 0), (9, 0), (9, 0), (9, 0), (9, 0)], [], h, 0, 0)
  have k0 := Kp.rf [] h
  refine ev_iload_n rfl ?_
  refine ev_bipush ?_
  rcases Int.lt_or_le (a1) 0 with c50461 | c50461
  · refine g_idivG (by omega) (fun v50462 ev50462 lv50462 uv50462 => ?_)
    refine ev_istore (L' := [(2, 42), (0, a1), (0, a2), (0, a3), (0, v50462), (9, 0), (9, 0), (9, 0), (9, 0), (9, 0), (9, 0), (9, 0), (9, 0), (9, 0), (9, 0)]) (Nat.le_of_ble_eq_true rfl) rfl ?_
    refine ev_iload_n rfl ?_
    refine ev_bipush ?_
    refine g_iremC (c := 100) rfl (by decide) (fun v50463 ev50463 lv50463 uv50463 => ?_)
    refine ev_istore (L' := [(2, 42), (0, a1), (0, a2), (0, a3), (0, v50462), (0, v50463), (9, 0), (9, 0), (9, 0), (9, 0), (9, 0), (9, 0), (9, 0), (9, 0), (9, 0)]) (Nat.le_of_ble_eq_true rfl) rfl ?_
    refine ev_iload_n rfl ?_
    refine ev_iflt f353_56 (fun c50464 => ?_) (fun c50464 => absurd c50464 (by omega))
    refine ev_ldc2_w ?_
    exact ev_ret rfl (by decide) (by decide) ⟨_, rfl, by omega, by omega, g, k0⟩
  · refine g_idivP (c := 100) rfl (by decide) (by omega) (by omega) (fun v50465 ev50465 lv50465 uv50465 => ?_)
    refine ev_istore (L' := [(2, 42), (0, a1), (0, a2), (0, a3), (0, v50465), (9, 0), (9, 0), (9, 0), (9, 0), (9, 0), (9, 0), (9, 0), (9, 0), (9, 0), (9, 0)]) (Nat.le_of_ble_eq_true rfl) rfl ?_
    refine ev_iload_n rfl ?_
    refine ev_bipush ?_
    refine g_iremP (c := 100) rfl (by decide) (by omega) (fun v50466 ev50466 lv50466 uv50466 wv50466 => ?_)
    refine ev_istore (L' := [(2, 42), (0, a1), (0, a2), (0, a3), (0, v50465), (0, v50466), (9, 0), (9, 0), (9, 0), (9, 0), (9, 0), (9, 0), (9, 0), (9, 0), (9, 0)]) (Nat.le_of_ble_eq_true rfl) rfl ?_
    refine ev_iload_n rfl ?_
    refine ev_iflt f353_56 (fun c50467 => absurd c50467 (by omega)) (fun c50467 => ?_)
    refine ev_iload rfl ?_
    refine ev_iconst ?_
    refine ev_bipush ?_
    refine ev_in (d := 0) (a := 0) (b := 0) (cd' := c242_0) (m := 3) (L0 := [(0, v50466), (0, 1), (0, 20)]) (jcall_s (A := [(0, 20), (0, 1), (0, v50466)]) (S' := []) (by decide) rfl (Nat.le_of_ble_eq_true rfl)) (by decide) ml242 pp242 (Nat.le_of_ble_eq_true rfl) rfl (by decide) (by decide) ?_
    refine ev_iload_n rfl ?_
    refine ev_iload_n rfl ?_
    refine ev_icmplt f242_14 (fun c50468 => ?_) (fun c50468 => ?_)
    · refine ev_iconst ?_
      refine ev_ret rfl (by decide) (by decide) ?_
      show jEv _ _ _ _ _ _ _ (_, [(2, 42), (0, a1), (0, a2), (0, a3), (0, v50465), (0, v50466), (9, 0), (9, 0), (9, 0), (9, 0), (9, 0), (9, 0), (9, 0), (9, 0), (9, 0)], [(0, 0)], _, _, _)
      refine ev_ifeq f353_56 (fun c50469 => ?_) (fun c50469 => absurd c50469 (by omega))
      refine ev_ldc2_w ?_
      exact ev_ret rfl (by decide) (by decide) ⟨_, rfl, by omega, by omega, g, k0⟩
    · refine ev_iload_n rfl ?_
      refine ev_iload_n rfl ?_
      refine ev_icmpgt f242_14 (fun c50470 => ?_) (fun c50470 => ?_)
      · refine ev_iconst ?_
        refine ev_ret rfl (by decide) (by decide) ?_
        show jEv _ _ _ _ _ _ _ (_, [(2, 42), (0, a1), (0, a2), (0, a3), (0, v50465), (0, v50466), (9, 0), (9, 0), (9, 0), (9, 0), (9, 0), (9, 0), (9, 0), (9, 0), (9, 0)], [(0, 0)], _, _, _)
        refine ev_ifeq f353_56 (fun c50471 => ?_) (fun c50471 => absurd c50471 (by omega))
        refine ev_ldc2_w ?_
        exact ev_ret rfl (by decide) (by decide) ⟨_, rfl, by omega, by omega, g, k0⟩
      · refine ev_iconst ?_
        refine ev_goto f242_15 ?_
        refine ev_ret rfl (by decide) (by decide) ?_
        show jEv _ _ _ _ _ _ _ (_, [(2, 42), (0, a1), (0, a2), (0, a3), (0, v50465), (0, v50466), (9, 0), (9, 0), (9, 0), (9, 0), (9, 0), (9, 0), (9, 0), (9, 0), (9, 0)], [(0, 1)], _, _, _)
        refine ev_ifeq f353_56 (fun c50472 => absurd c50472 (by omega)) (fun c50472 => ?_)
        refine ev_iload rfl ?_
        refine ev_iload rfl ?_
        refine ev_icmpge f353_56 (fun c50473 => ?_) (fun c50473 => ?_)
        · refine ev_ldc2_w ?_
          exact ev_ret rfl (by decide) (by decide) ⟨_, rfl, by omega, by omega, g, k0⟩
        · refine ev_iload_n rfl ?_
          refine ev_sipush ?_
          refine ev_sipush ?_
          refine ev_in (d := 0) (a := 0) (b := 0) (cd' := c242_0) (m := 3) (L0 := [(0, a2), (0, (-999)), (0, 999)]) (jcall_s (A := [(0, 999), (0, (-999)), (0, a2)]) (S' := []) (by decide) rfl (Nat.le_of_ble_eq_true rfl)) (by decide) ml242 pp242 (Nat.le_of_ble_eq_true rfl) rfl (by decide) (by decide) ?_
          refine ev_iload_n rfl ?_
          refine ev_iload_n rfl ?_
          refine ev_icmplt f242_14 (fun c50474 => ?_) (fun c50474 => ?_)
          · refine ev_iconst ?_
            refine ev_ret rfl (by decide) (by decide) ?_
            show jEv _ _ _ _ _ _ _ (_, [(2, 42), (0, a1), (0, a2), (0, a3), (0, v50465), (0, v50466), (9, 0), (9, 0), (9, 0), (9, 0), (9, 0), (9, 0), (9, 0), (9, 0), (9, 0)], [(0, 0)], _, _, _)
            refine ev_ifeq f353_56 (fun c50475 => ?_) (fun c50475 => absurd c50475 (by omega))
            refine ev_ldc2_w ?_
            exact ev_ret rfl (by decide) (by decide) ⟨_, rfl, by omega, by omega, g, k0⟩
          · refine ev_iload_n rfl ?_
            refine ev_iload_n rfl ?_
            refine ev_icmpgt f242_14 (fun c50476 => ?_) (fun c50476 => ?_)
            · refine ev_iconst ?_
              refine ev_ret rfl (by decide) (by decide) ?_
              show jEv _ _ _ _ _ _ _ (_, [(2, 42), (0, a1), (0, a2), (0, a3), (0, v50465), (0, v50466), (9, 0), (9, 0), (9, 0), (9, 0), (9, 0), (9, 0), (9, 0), (9, 0), (9, 0)], [(0, 0)], _, _, _)
              refine ev_ifeq f353_56 (fun c50477 => ?_) (fun c50477 => absurd c50477 (by omega))
              refine ev_ldc2_w ?_
              exact ev_ret rfl (by decide) (by decide) ⟨_, rfl, by omega, by omega, g, k0⟩
            · refine ev_iconst ?_
              refine ev_goto f242_15 ?_
              refine ev_ret rfl (by decide) (by decide) ?_
              show jEv _ _ _ _ _ _ _ (_, [(2, 42), (0, a1), (0, a2), (0, a3), (0, v50465), (0, v50466), (9, 0), (9, 0), (9, 0), (9, 0), (9, 0), (9, 0), (9, 0), (9, 0), (9, 0)], [(0, 1)], _, _, _)
              refine ev_ifeq f353_56 (fun c50478 => absurd c50478 (by omega)) (fun c50478 => ?_)
              refine ev_iload_n rfl ?_
              refine ev_iconst ?_
              refine ev_iconst ?_
              refine ev_in (d := 0) (a := 0) (b := 0) (cd' := c242_0) (m := 3) (L0 := [(0, a3), (0, 0), (0, 1)]) (jcall_s (A := [(0, 1), (0, 0), (0, a3)]) (S' := []) (by decide) rfl (Nat.le_of_ble_eq_true rfl)) (by decide) ml242 pp242 (Nat.le_of_ble_eq_true rfl) rfl (by decide) (by decide) ?_
              refine ev_iload_n rfl ?_
              refine ev_iload_n rfl ?_
              refine ev_icmplt f242_14 (fun c50479 => ?_) (fun c50479 => ?_)
              · refine ev_iconst ?_
                refine ev_ret rfl (by decide) (by decide) ?_
                show jEv _ _ _ _ _ _ _ (_, [(2, 42), (0, a1), (0, a2), (0, a3), (0, v50465), (0, v50466), (9, 0), (9, 0), (9, 0), (9, 0), (9, 0), (9, 0), (9, 0), (9, 0), (9, 0)], [(0, 0)], _, _, _)
                refine ev_ifne f353_60 (fun c50480 => absurd c50480 (by omega)) (fun c50480 => ?_)
                refine ev_ldc2_w ?_
                exact ev_ret rfl (by decide) (by decide) ⟨_, rfl, by omega, by omega, g, k0⟩
              · refine ev_iload_n rfl ?_
                refine ev_iload_n rfl ?_
                refine ev_icmpgt f242_14 (fun c50481 => ?_) (fun c50481 => ?_)
                · refine ev_iconst ?_
                  refine ev_ret rfl (by decide) (by decide) ?_
                  show jEv _ _ _ _ _ _ _ (_, [(2, 42), (0, a1), (0, a2), (0, a3), (0, v50465), (0, v50466), (9, 0), (9, 0), (9, 0), (9, 0), (9, 0), (9, 0), (9, 0), (9, 0), (9, 0)], [(0, 0)], _, _, _)
                  refine ev_ifne f353_60 (fun c50482 => absurd c50482 (by omega)) (fun c50482 => ?_)
                  refine ev_ldc2_w ?_
                  exact ev_ret rfl (by decide) (by decide) ⟨_, rfl, by omega, by omega, g, k0⟩
                · refine ev_iconst ?_
                  refine ev_goto f242_15 ?_
                  refine ev_ret rfl (by decide) (by decide) ?_
                  show jEv _ _ _ _ _ _ _ (_, [(2, 42), (0, a1), (0, a2), (0, a3), (0, v50465), (0, v50466), (9, 0), (9, 0), (9, 0), (9, 0), (9, 0), (9, 0), (9, 0), (9, 0), (9, 0)], [(0, 1)], _, _, _)
                  refine ev_ifne f353_60 (fun c50483 => ?_) (fun c50483 => absurd c50483 (by omega))
                  refine ev_ldc2_w ?_
                  refine ev_iload_n rfl ?_
                  refine ev_i2l ?_
                  refine ev_lmul (r := (1000000 * a2)) (by unfold w64; omega) ?_
                  refine ev_lstore (L' := [(2, 42), (0, a1), (0, a2), (0, a3), (0, v50465), (0, v50466), (1, (1000000 * a2)), (9, 0), (9, 0), (9, 0), (9, 0), (9, 0), (9, 0), (9, 0), (9, 0)]) (Nat.le_of_ble_eq_true rfl) rfl ?_
                  refine ev_lconst ?_
                  refine ev_lstore (L' := [(2, 42), (0, a1), (0, a2), (0, a3), (0, v50465), (0, v50466), (1, (1000000 * a2)), (9, 0), (1, 0), (9, 0), (9, 0), (9, 0), (9, 0), (9, 0), (9, 0)]) (Nat.le_of_ble_eq_true rfl) rfl ?_
                  refine ev_iload rfl ?_
                  refine ev_iconst ?_
                  refine ev_isub (r := (v50466 - 1)) (by unfold w32; omega) ?_
                  refine ev_istore (L' := [(2, 42), (0, a1), (0, a2), (0, a3), (0, v50465), (0, v50466), (1, (1000000 * a2)), (9, 0), (1, 0), (9, 0), (0, (v50466 - 1)), (9, 0), (9, 0), (9, 0), (9, 0)]) (Nat.le_of_ble_eq_true rfl) rfl ?_
                  exact (s353_l la1 ua1 la2 ua2 la3 ua3 42) _ _ _ _ _ _ _ _ g k0 (by omega) (by omega) (by omega) (by omega) (by omega) (by omega) (by omega) (by omega) (by omega) (by omega) (by omega) (by omega) (by omega) (by omega) (by omega) (by omega) (by omega)
/-! 285 feeling -/
set_option maxHeartbeats 4000000 in
theorem s285 {G : GH} {h : JH} (g : Gd G h) {a1 : Int} (la1 : (-2147483648) ≤ a1) (ua1 : a1 ≤ 2147483647) {a2 : Int} (la2 : (-2147483648) ≤ a2) (ua2 : a2 ≤ 2147483647) : jOk 2 0 0 285 [(2, 42), (0, a1), (0, a2)] h (PI G [(42, 29), (60, 0), (61, 0)] h 0 (-3) 19) := by
  refine ⟨by decide, by rw [ml285]; exact Nat.le_of_ble_eq_true rfl, ?_⟩
  rw [ml285, pp285]
  show jEv _ none _ c285_0 0 0 _ (c285_0, [(2, 42), (0, a1), (0, a2)], [], h, 0, 0)
  have k0 := Kp.rf [(42, 29), (60, 0), (61, 0)] h
  refine ev_iload_n rfl ?_
  refine ev_iconst ?_
  refine ev_iconst ?_
  refine ev_in (d := 0) (a := 0) (b := 0) (cd' := c242_0) (m := 3) (L0 := [(0, a1), (0, 0), (0, 5)]) (jcall_s (A := [(0, 5), (0, 0), (0, a1)]) (S' := []) (by decide) rfl (Nat.le_of_ble_eq_true rfl)) (by decide) ml242 pp242 (Nat.le_of_ble_eq_true rfl) rfl (by decide) (by decide) ?_
  refine ev_iload_n rfl ?_
  refine ev_iload_n rfl ?_
  refine ev_icmplt f242_14 (fun c50530 => ?_) (fun c50530 => ?_)
  · refine ev_iconst ?_
    refine ev_ret rfl (by decide) (by decide) ?_
    show jEv _ _ _ _ _ _ _ (_, [(2, 42), (0, a1), (0, a2)], [(0, 0)], _, _, _)
    refine ev_ifeq f285_24 (fun c50531 => ?_) (fun c50531 => absurd c50531 (by omega))
    refine ev_iconst ?_
    exact ev_ret rfl (by decide) (by decide) ⟨_, rfl, by omega, by omega, g, k0⟩
  · refine ev_iload_n rfl ?_
    refine ev_iload_n rfl ?_
    refine ev_icmpgt f242_14 (fun c50532 => ?_) (fun c50532 => ?_)
    · refine ev_iconst ?_
      refine ev_ret rfl (by decide) (by decide) ?_
      show jEv _ _ _ _ _ _ _ (_, [(2, 42), (0, a1), (0, a2)], [(0, 0)], _, _, _)
      refine ev_ifeq f285_24 (fun c50533 => ?_) (fun c50533 => absurd c50533 (by omega))
      refine ev_iconst ?_
      exact ev_ret rfl (by decide) (by decide) ⟨_, rfl, by omega, by omega, g, k0⟩
    · refine ev_iconst ?_
      refine ev_goto f242_15 ?_
      refine ev_ret rfl (by decide) (by decide) ?_
      show jEv _ _ _ _ _ _ _ (_, [(2, 42), (0, a1), (0, a2)], [(0, 1)], _, _, _)
      refine ev_ifeq f285_24 (fun c50534 => absurd c50534 (by omega)) (fun c50534 => ?_)
      refine ev_iload_n rfl ?_
      refine ev_iconst ?_
      refine ev_icmplt f285_26 (fun c50535 => ?_) (fun c50535 => ?_)
      · refine ev_aload_n rfl ?_
        obtain ⟨v50536, ev50536, lv50536, uv50536⟩ := g.rd ad42 (show 28 < 66 by decide) rf42_28
        refine g_getv (r := 42) (v := v50536) g ad42 (by decide) ft12_28 ev50536 ?_
        refine ev_bipush ?_
        refine ev_icmpne f285_38 (fun c50537 => ?_) (fun c50537 => ?_)
        · refine ev_aload_n rfl ?_
          refine g_getp (r := 42) (c := 60) g ad42 (by decide) (by decide) rf42_29 ft12_29 ?_
          refine ev_aload_n rfl ?_
          refine g_getv (r := 42) (v := v50536) g ad42 (by decide) ft12_28 (ev50536) ?_
          refine ev_iload_n rfl ?_
          refine g_iast g ad60 rt60 (fun _ => rfl) (by omega) (by omega) (by omega) (by omega) (fun h50538 e50538 g50538 => ?_)
          have k50538 := k0.wr e50538 rfl
          refine ev_aload_n rfl ?_
          refine g_getp (r := 42) (c := 61) g50538 ad42 (by decide) (by decide) rf42_30 ft12_30 ?_
          refine ev_aload_n rfl ?_
          refine g_getv (r := 42) (v := v50536) g50538 ad42 (by decide) ft12_28 (((jw_ne e50538 (Or.inl (by decide))).trans ev50536)) ?_
          refine ev_iload_n rfl ?_
          refine ev_iconst ?_
          refine ev_icmplt f285_65 (fun c50539 => ?_) (fun c50539 => absurd c50539 (by omega))
          refine ev_iconst ?_
          refine g_iast g50538 ad61 rt61 (fun _ => rfl) (by omega) (by omega) (by omega) (by omega) (fun h50540 e50540 g50540 => ?_)
          have k50540 := k50538.wr e50540 rfl
          refine ev_aload_n rfl ?_
          refine ev_dup (by decide) ?_
          refine g_getv (r := 42) (v := v50536) g50540 ad42 (by decide) ft12_28 (((jw_ne e50540 (Or.inl (by decide))).trans ((jw_ne e50538 (Or.inl (by decide))).trans ev50536))) ?_
          refine ev_iconst ?_
          refine ev_iadd (r := (v50536 + 1)) (by unfold w32; omega) ?_
          refine g_putf (r := 42) g50540 ad42 (by decide) ft12_28 (by decide) (fun e => absurd e nz12_28) rf42_28 (by decide) (by omega) (by omega) (fun h50541 e50541 g50541 => ?_)
          have k50541 := k50540.wr e50541 rfl
          refine ev_aload_n rfl ?_
          refine g_getv (r := 42) (v := (v50536 + 1)) g50541 ad42 (by decide) ft12_28 ((jw_eq e50541)) ?_
          refine ev_iconst ?_
          refine ev_isub (r := v50536) (by unfold w32; omega) ?_
          exact ev_ret rfl (by decide) (by decide) ⟨_, rfl, by omega, by omega, g50541, k50541⟩
        · refine ev_bipush ?_
          exact ev_ret rfl (by decide) (by decide) ⟨_, rfl, by omega, by omega, g, k0⟩
      · refine ev_iload_n rfl ?_
        refine ev_iconst ?_
        refine ev_bipush ?_
        refine ev_in (d := 0) (a := 0) (b := 0) (cd' := c242_0) (m := 3) (L0 := [(0, a2), (0, 0), (0, 100)]) (jcall_s (A := [(0, 100), (0, 0), (0, a2)]) (S' := []) (by decide) rfl (Nat.le_of_ble_eq_true rfl)) (by decide) ml242 pp242 (Nat.le_of_ble_eq_true rfl) rfl (by decide) (by decide) ?_
        refine ev_iload_n rfl ?_
        refine ev_iload_n rfl ?_
        refine ev_icmplt f242_14 (fun c50542 => ?_) (fun c50542 => ?_)
        · refine ev_iconst ?_
          refine ev_ret rfl (by decide) (by decide) ?_
          show jEv _ _ _ _ _ _ _ (_, [(2, 42), (0, a1), (0, a2)], [(0, 0)], _, _, _)
          refine ev_ifne f285_26 (fun c50543 => absurd c50543 (by omega)) (fun c50543 => ?_)
          refine ev_iconst ?_
          exact ev_ret rfl (by decide) (by decide) ⟨_, rfl, by omega, by omega, g, k0⟩
        · refine ev_iload_n rfl ?_
          refine ev_iload_n rfl ?_
          refine ev_icmpgt f242_14 (fun c50544 => ?_) (fun c50544 => ?_)
          · refine ev_iconst ?_
            refine ev_ret rfl (by decide) (by decide) ?_
            show jEv _ _ _ _ _ _ _ (_, [(2, 42), (0, a1), (0, a2)], [(0, 0)], _, _, _)
            refine ev_ifne f285_26 (fun c50545 => absurd c50545 (by omega)) (fun c50545 => ?_)
            refine ev_iconst ?_
            exact ev_ret rfl (by decide) (by decide) ⟨_, rfl, by omega, by omega, g, k0⟩
          · refine ev_iconst ?_
            refine ev_goto f242_15 ?_
            refine ev_ret rfl (by decide) (by decide) ?_
            show jEv _ _ _ _ _ _ _ (_, [(2, 42), (0, a1), (0, a2)], [(0, 1)], _, _, _)
            refine ev_ifne f285_26 (fun c50546 => ?_) (fun c50546 => absurd c50546 (by omega))
            refine ev_aload_n rfl ?_
            obtain ⟨v50547, ev50547, lv50547, uv50547⟩ := g.rd ad42 (show 28 < 66 by decide) rf42_28
            refine g_getv (r := 42) (v := v50547) g ad42 (by decide) ft12_28 ev50547 ?_
            refine ev_bipush ?_
            refine ev_icmpne f285_38 (fun c50548 => ?_) (fun c50548 => ?_)
            · refine ev_aload_n rfl ?_
              refine g_getp (r := 42) (c := 60) g ad42 (by decide) (by decide) rf42_29 ft12_29 ?_
              refine ev_aload_n rfl ?_
              refine g_getv (r := 42) (v := v50547) g ad42 (by decide) ft12_28 (ev50547) ?_
              refine ev_iload_n rfl ?_
              refine g_iast g ad60 rt60 (fun _ => rfl) (by omega) (by omega) (by omega) (by omega) (fun h50549 e50549 g50549 => ?_)
              have k50549 := k0.wr e50549 rfl
              refine ev_aload_n rfl ?_
              refine g_getp (r := 42) (c := 61) g50549 ad42 (by decide) (by decide) rf42_30 ft12_30 ?_
              refine ev_aload_n rfl ?_
              refine g_getv (r := 42) (v := v50547) g50549 ad42 (by decide) ft12_28 (((jw_ne e50549 (Or.inl (by decide))).trans ev50547)) ?_
              refine ev_iload_n rfl ?_
              refine ev_iconst ?_
              refine ev_icmplt f285_65 (fun c50550 => absurd c50550 (by omega)) (fun c50550 => ?_)
              refine ev_iload_n rfl ?_
              refine ev_goto f285_66 ?_
              refine g_iast g50549 ad61 rt61 (fun _ => rfl) (by omega) (by omega) (by omega) (by omega) (fun h50551 e50551 g50551 => ?_)
              have k50551 := k50549.wr e50551 rfl
              refine ev_aload_n rfl ?_
              refine ev_dup (by decide) ?_
              refine g_getv (r := 42) (v := v50547) g50551 ad42 (by decide) ft12_28 (((jw_ne e50551 (Or.inl (by decide))).trans ((jw_ne e50549 (Or.inl (by decide))).trans ev50547))) ?_
              refine ev_iconst ?_
              refine ev_iadd (r := (v50547 + 1)) (by unfold w32; omega) ?_
              refine g_putf (r := 42) g50551 ad42 (by decide) ft12_28 (by decide) (fun e => absurd e nz12_28) rf42_28 (by decide) (by omega) (by omega) (fun h50552 e50552 g50552 => ?_)
              have k50552 := k50551.wr e50552 rfl
              refine ev_aload_n rfl ?_
              refine g_getv (r := 42) (v := (v50547 + 1)) g50552 ad42 (by decide) ft12_28 ((jw_eq e50552)) ?_
              refine ev_iconst ?_
              refine ev_isub (r := v50547) (by unfold w32; omega) ?_
              exact ev_ret rfl (by decide) (by decide) ⟨_, rfl, by omega, by omega, g50552, k50552⟩
            · refine ev_bipush ?_
              exact ev_ret rfl (by decide) (by decide) ⟨_, rfl, by omega, by omega, g, k0⟩
/-! 286 step -/
set_option maxHeartbeats 4000000 in
theorem s286 {G : GH} {h : JH} (g : Gd G h) {a1 : Int} (la1 : (-2147483648) ≤ a1) (ua1 : a1 ≤ 2147483647) {a2 : Int} (la2 : (-2147483648) ≤ a2) (ua2 : a2 ≤ 2147483647) : jOk 2 0 0 286 [(2, 42), (0, a1), (0, a2)] h (PI G [(42, 32), (62, 0), (63, 0)] h 0 (-3) 6) := by
  refine ⟨by decide, by rw [ml286]; exact Nat.le_of_ble_eq_true rfl, ?_⟩
  rw [ml286, pp286]
  show jEv _ none _ c286_0 0 0 _ (c286_0, [(2, 42), (0, a1), (0, a2)], [], h, 0, 0)
  have k0 := Kp.rf [(42, 32), (62, 0), (63, 0)] h
  refine ev_iload_n rfl ?_
  refine ev_sipush ?_
  refine ev_sipush ?_
  refine ev_in (d := 0) (a := 0) (b := 0) (cd' := c242_0) (m := 3) (L0 := [(0, a1), (0, (-9999)), (0, 9999)]) (jcall_s (A := [(0, 9999), (0, (-9999)), (0, a1)]) (S' := []) (by decide) rfl (Nat.le_of_ble_eq_true rfl)) (by decide) ml242 pp242 (Nat.le_of_ble_eq_true rfl) rfl (by decide) (by decide) ?_
  refine ev_iload_n rfl ?_
  refine ev_iload_n rfl ?_
  refine ev_icmplt f242_14 (fun c50583 => ?_) (fun c50583 => ?_)
  · refine ev_iconst ?_
    refine ev_ret rfl (by decide) (by decide) ?_
    show jEv _ _ _ _ _ _ _ (_, [(2, 42), (0, a1), (0, a2)], [(0, 0)], _, _, _)
    refine ev_ifeq f286_23 (fun c50584 => ?_) (fun c50584 => absurd c50584 (by omega))
    refine ev_iconst ?_
    exact ev_ret rfl (by decide) (by decide) ⟨_, rfl, by omega, by omega, g, k0⟩
  · refine ev_iload_n rfl ?_
    refine ev_iload_n rfl ?_
    refine ev_icmpgt f242_14 (fun c50585 => ?_) (fun c50585 => ?_)
    · refine ev_iconst ?_
      refine ev_ret rfl (by decide) (by decide) ?_
      show jEv _ _ _ _ _ _ _ (_, [(2, 42), (0, a1), (0, a2)], [(0, 0)], _, _, _)
      refine ev_ifeq f286_23 (fun c50586 => ?_) (fun c50586 => absurd c50586 (by omega))
      refine ev_iconst ?_
      exact ev_ret rfl (by decide) (by decide) ⟨_, rfl, by omega, by omega, g, k0⟩
    · refine ev_iconst ?_
      refine ev_goto f242_15 ?_
      refine ev_ret rfl (by decide) (by decide) ?_
      show jEv _ _ _ _ _ _ _ (_, [(2, 42), (0, a1), (0, a2)], [(0, 1)], _, _, _)
      refine ev_ifeq f286_23 (fun c50587 => absurd c50587 (by omega)) (fun c50587 => ?_)
      refine ev_iload_n rfl ?_
      refine ev_iconst ?_
      refine ev_bipush ?_
      refine ev_in (d := 0) (a := 0) (b := 0) (cd' := c242_0) (m := 3) (L0 := [(0, a2), (0, 0), (0, 9)]) (jcall_s (A := [(0, 9), (0, 0), (0, a2)]) (S' := []) (by decide) rfl (Nat.le_of_ble_eq_true rfl)) (by decide) ml242 pp242 (Nat.le_of_ble_eq_true rfl) rfl (by decide) (by decide) ?_
      refine ev_iload_n rfl ?_
      refine ev_iload_n rfl ?_
      refine ev_icmplt f242_14 (fun c50588 => ?_) (fun c50588 => ?_)
      · refine ev_iconst ?_
        refine ev_ret rfl (by decide) (by decide) ?_
        show jEv _ _ _ _ _ _ _ (_, [(2, 42), (0, a1), (0, a2)], [(0, 0)], _, _, _)
        refine ev_ifne f286_25 (fun c50589 => absurd c50589 (by omega)) (fun c50589 => ?_)
        refine ev_iconst ?_
        exact ev_ret rfl (by decide) (by decide) ⟨_, rfl, by omega, by omega, g, k0⟩
      · refine ev_iload_n rfl ?_
        refine ev_iload_n rfl ?_
        refine ev_icmpgt f242_14 (fun c50590 => ?_) (fun c50590 => ?_)
        · refine ev_iconst ?_
          refine ev_ret rfl (by decide) (by decide) ?_
          show jEv _ _ _ _ _ _ _ (_, [(2, 42), (0, a1), (0, a2)], [(0, 0)], _, _, _)
          refine ev_ifne f286_25 (fun c50591 => absurd c50591 (by omega)) (fun c50591 => ?_)
          refine ev_iconst ?_
          exact ev_ret rfl (by decide) (by decide) ⟨_, rfl, by omega, by omega, g, k0⟩
        · refine ev_iconst ?_
          refine ev_goto f242_15 ?_
          refine ev_ret rfl (by decide) (by decide) ?_
          show jEv _ _ _ _ _ _ _ (_, [(2, 42), (0, a1), (0, a2)], [(0, 1)], _, _, _)
          refine ev_ifne f286_25 (fun c50592 => ?_) (fun c50592 => absurd c50592 (by omega))
          refine ev_aload_n rfl ?_
          obtain ⟨v50593, ev50593, lv50593, uv50593⟩ := g.rd ad42 (show 31 < 66 by decide) rf42_31
          refine g_getv (r := 42) (v := v50593) g ad42 (by decide) ft12_31 ev50593 ?_
          refine ev_bipush ?_
          refine ev_icmpne f286_37 (fun c50594 => ?_) (fun c50594 => ?_)
          · refine ev_aload_n rfl ?_
            refine g_getp (r := 42) (c := 62) g ad42 (by decide) (by decide) rf42_32 ft12_32 ?_
            refine ev_aload_n rfl ?_
            refine g_getv (r := 42) (v := v50593) g ad42 (by decide) ft12_31 (ev50593) ?_
            refine ev_iload_n rfl ?_
            refine g_iast g ad62 rt62 (fun _ => rfl) (by omega) (by omega) (by omega) (by omega) (fun h50595 e50595 g50595 => ?_)
            have k50595 := k0.wr e50595 rfl
            refine ev_aload_n rfl ?_
            refine g_getp (r := 42) (c := 63) g50595 ad42 (by decide) (by decide) rf42_33 ft12_33 ?_
            refine ev_aload_n rfl ?_
            refine g_getv (r := 42) (v := v50593) g50595 ad42 (by decide) ft12_31 (((jw_ne e50595 (Or.inl (by decide))).trans ev50593)) ?_
            refine ev_iload_n rfl ?_
            refine g_iast g50595 ad63 rt63 (fun _ => rfl) (by omega) (by omega) (by omega) (by omega) (fun h50596 e50596 g50596 => ?_)
            have k50596 := k50595.wr e50596 rfl
            refine ev_aload_n rfl ?_
            refine ev_dup (by decide) ?_
            refine g_getv (r := 42) (v := v50593) g50596 ad42 (by decide) ft12_31 (((jw_ne e50596 (Or.inl (by decide))).trans ((jw_ne e50595 (Or.inl (by decide))).trans ev50593))) ?_
            refine ev_iconst ?_
            refine ev_iadd (r := (v50593 + 1)) (by unfold w32; omega) ?_
            refine g_putf (r := 42) g50596 ad42 (by decide) ft12_31 (by decide) (fun e => absurd e nz12_31) rf42_31 (by decide) (by omega) (by omega) (fun h50597 e50597 g50597 => ?_)
            have k50597 := k50596.wr e50597 rfl
            refine ev_aload_n rfl ?_
            refine g_getv (r := 42) (v := (v50593 + 1)) g50597 ad42 (by decide) ft12_31 ((jw_eq e50597)) ?_
            exact ev_ret rfl (by decide) (by decide) ⟨_, rfl, by omega, by omega, g50597, k50597⟩
          · refine ev_bipush ?_
            exact ev_ret rfl (by decide) (by decide) ⟨_, rfl, by omega, by omega, g, k0⟩
/-! 287 coinBy -/
set_option maxHeartbeats 4000000 in
theorem s287_l {G : GH} {h : JH} {a1 : Int} (la1 : (-2147483648) ≤ a1) (ua1 : a1 ≤ 2147483647) : ∀ N : Nat, (∀ (h1 : JH) (x2 x3 : Int), Gd G h1 → Kp [] h h1 → (-2147483648) ≤ a1 → a1 ≤ 2147483647 → (-1) ≤ x2 → x2 ≤ 5 → 0 ≤ x3 → x3 ≤ 6 → ((-x3) + 6) < N → jEv (jOk 0) none (fun _ => 0) c287_0 0 0 (PI G [] h 0 0 100) (c287_4, [(2, 42), (0, a1), (0, x2), (0, x3)], [], h1, 0, 0)) := by
  intro N
  induction N with
  | zero => exact fun h1 x2 x3 g1 k1 b0 b1 b2 b3 b4 b5 hm => absurd hm (by omega)
  | succ N ih =>
    show _
    intro h1 x2 x3 g1 k1 b0 b1 b2 b3 b4 b5 hm
    refine ev_iload_n rfl ?_
    refine ev_aload_n rfl ?_
    obtain ⟨v50667, ev50667, lv50667, uv50667⟩ := g1.rd ad42 (show 31 < 66 by decide) rf42_31
    refine g_getv (r := 42) (v := v50667) g1 ad42 (by decide) ft12_31 ev50667 ?_
    refine ev_icmpge f287_49 (fun c50668 => ?_) (fun c50668 => ?_)
    · refine ev_iload_n rfl ?_
      refine ev_ifge f287_58 (fun c50669 => ?_) (fun c50669 => ?_)
      · refine ev_bipush ?_
        refine ev_aload_n rfl ?_
        refine g_getp (r := 42) (c := 63) g1 ad42 (by decide) (by decide) rf42_33 ft12_33 ?_
        refine ev_iload_n rfl ?_
        refine g_iald g1 ad63 rt63 (by omega) (by omega) (fun v50670 ev50670 lv50670 uv50670 => ?_)
        refine ev_imul (r := (10 * v50670)) (by unfold w32; omega) ?_
        exact ev_ret rfl (by decide) (by decide) ⟨_, rfl, by omega, by omega, g1, k1⟩
      · refine ev_bipush ?_
        refine ev_goto f287_67 ?_
        exact ev_ret rfl (by decide) (by decide) ⟨_, rfl, by omega, by omega, g1, k1⟩
    · refine ev_aload_n rfl ?_
      refine g_getp (r := 42) (c := 62) g1 ad42 (by decide) (by decide) rf42_32 ft12_32 ?_
      refine ev_iload_n rfl ?_
      refine g_iald g1 ad62 rt62 (by omega) (by omega) (fun v50671 ev50671 lv50671 uv50671 => ?_)
      refine ev_iload_n rfl ?_
      refine ev_icmpgt f287_43 (fun c50672 => ?_) (fun c50672 => ?_)
      · refine ev_iinc (w := (x3 + 1)) (L' := [(2, 42), (0, a1), (0, x2), (0, (x3 + 1))]) rfl (by unfold w32; omega) rfl ?_
        refine ev_goto f287_4 ?_
        exact ih _ _ _ g1 k1 (by omega) (by omega) (by omega) (by omega) (by omega) (by omega) (by omega)
      · refine ev_iload_n rfl ?_
        refine ev_iflt f287_41 (fun c50673 => ?_) (fun c50673 => ?_)
        · refine ev_iload_n rfl ?_
          refine ev_istore_n (L' := [(2, 42), (0, a1), (0, x3), (0, x3)]) (Nat.le_of_ble_eq_true rfl) rfl ?_
          refine ev_iinc (w := (x3 + 1)) (L' := [(2, 42), (0, a1), (0, x3), (0, (x3 + 1))]) rfl (by unfold w32; omega) rfl ?_
          refine ev_goto f287_4 ?_
          exact ih _ _ _ g1 k1 (by omega) (by omega) (by omega) (by omega) (by omega) (by omega) (by omega)
        · refine ev_aload_n rfl ?_
          refine g_getp (r := 42) (c := 62) g1 ad42 (by decide) (by decide) rf42_32 ft12_32 ?_
          refine ev_iload_n rfl ?_
          refine g_ialdv (v := v50671) g1 ad62 (by omega) (by omega) (ev50671) ?_
          refine ev_aload_n rfl ?_
          refine g_getp (r := 42) (c := 62) g1 ad42 (by decide) (by decide) rf42_32 ft12_32 ?_
          refine ev_iload_n rfl ?_
          refine g_iald g1 ad62 rt62 (by omega) (by omega) (fun v50674 ev50674 lv50674 uv50674 => ?_)
          refine ev_icmplt f287_43 (fun c50675 => ?_) (fun c50675 => ?_)
          · refine ev_iinc (w := (x3 + 1)) (L' := [(2, 42), (0, a1), (0, x2), (0, (x3 + 1))]) rfl (by unfold w32; omega) rfl ?_
            refine ev_goto f287_4 ?_
            exact ih _ _ _ g1 k1 (by omega) (by omega) (by omega) (by omega) (by omega) (by omega) (by omega)
          · refine ev_iload_n rfl ?_
            refine ev_istore_n (L' := [(2, 42), (0, a1), (0, x3), (0, x3)]) (Nat.le_of_ble_eq_true rfl) rfl ?_
            refine ev_iinc (w := (x3 + 1)) (L' := [(2, 42), (0, a1), (0, x3), (0, (x3 + 1))]) rfl (by unfold w32; omega) rfl ?_
            refine ev_goto f287_4 ?_
            exact ih _ _ _ g1 k1 (by omega) (by omega) (by omega) (by omega) (by omega) (by omega) (by omega)
set_option maxHeartbeats 4000000 in
theorem s287 {G : GH} {h : JH} (g : Gd G h) {a1 : Int} (la1 : (-2147483648) ≤ a1) (ua1 : a1 ≤ 2147483647) : jOk 1 0 0 287 [(2, 42), (0, a1)] h (PI G [] h 0 0 100) := by
  refine ⟨by decide, by rw [ml287]; exact Nat.le_of_ble_eq_true rfl, ?_⟩
  rw [ml287, pp287]
  show jEv _ none _ c287_0 0 0 _ (c287_0, [(2, 42), (0, a1), (9, 0), (9, 0)], [], h, 0, 0)
  have k0 := Kp.rf [] h
  refine ev_iconst ?_
  refine ev_istore_n (L' := [(2, 42), (0, a1), (0, (-1)), (9, 0)]) (Nat.le_of_ble_eq_true rfl) rfl ?_
  refine ev_iconst ?_
  refine ev_istore_n (L' := [(2, 42), (0, a1), (0, (-1)), (0, 0)]) (Nat.le_of_ble_eq_true rfl) rfl ?_
  exact (s287_l la1 ua1 14) _ _ _ g k0 (by omega) (by omega) (by omega) (by omega) (by omega) (by omega) (by omega)
/-! 288 feltOf -/
set_option maxHeartbeats 4000000 in
theorem s288_l {G : GH} {h : JH} {a1 : Int} (la1 : (-1000000) ≤ a1) (ua1 : a1 ≤ 1000000) : ∀ N : Nat, (∀ (h1 : JH) (x2 x3 : Int), Gd G h1 → Kp [] h h1 → (-1000000) ≤ a1 → a1 ≤ 1000000 → (-2147483648) ≤ x2 → x2 ≤ 2147483647 → 1 ≤ x3 → x3 ≤ 1000000000 → ((-x3) + 2000000001) < N → jEv (jOk 1) none (fun _ => 0) c288_0 0 0 (PI G [] h 0 (-2147483648) 2147483647) (c288_4, [(2, 42), (0, a1), (0, x2), (0, x3)], [], h1, 0, 0)) ∧ (∀ (h1 : JH) (x2 x3 : Int), Gd G h1 → Kp [] h h1 → (-1000000) ≤ a1 → a1 ≤ 1000000 → (-2147483648) ≤ x2 → x2 ≤ 2147483647 → (-1000000000) ≤ x3 → x3 ≤ 0 → (x3 + 1000000000) < N → jEv (jOk 1) none (fun _ => 0) c288_0 0 0 (PI G [] h 0 (-2147483648) 2147483647) (c288_25, [(2, 42), (0, a1), (0, x2), (0, x3)], [], h1, 0, 0)) := by
  intro N
  induction N with
  | zero => exact ⟨fun h1 x2 x3 g1 k1 b0 b1 b2 b3 b4 b5 hm => absurd hm (by omega), fun h1 x2 x3 g1 k1 b0 b1 b2 b3 b4 b5 hm => absurd hm (by omega)⟩
  | succ N ih =>
    refine ⟨?_, ?_⟩
    · intro h1 x2 x3 g1 k1 b0 b1 b2 b3 b4 b5 hm
      refine ev_iload_n rfl ?_
      refine ev_iload_n rfl ?_
      refine ev_icmpgt f288_23 (fun c51029 => ?_) (fun c51029 => ?_)
      · refine ev_iconst ?_
        refine ev_istore_n (L' := [(2, 42), (0, a1), (0, x2), (0, 0)]) (Nat.le_of_ble_eq_true rfl) rfl ?_
        exact ih.2 _ _ _ g1 k1 (by omega) (by omega) (by omega) (by omega) (by omega) (by omega) (by omega)
      · refine ev_iload_n rfl ?_
        refine ev_aload_n rfl ?_
        refine ev_iload_n rfl ?_
        refine ev_call (jcall_v (A := [(0, x3)]) (S' := [(0, x2)]) (r := 42) rfl (g1.lt ad42) (g1.tg ad42) (Nat.le_of_ble_eq_true rfl)) (jOk_le (by decide) (s287 g1 (by omega) (by omega))) (by decide) (by decide) (fun w51030 h51030 q51030 => ?_)
        obtain ⟨v51031, rfl, lv51031, uv51031, g51030, kk51030⟩ := q51030
        have k51030 := k1.tr kk51030 (by decide)
        show jEv _ _ _ _ _ _ _ (_, [(2, 42), (0, a1), (0, x2), (0, x3)], [(0, v51031), (0, x2)], _, _, _)
        refine g_iaddG (fun v51032 ev51032 lv51032 uv51032 => ?_)
        refine ev_istore_n (L' := [(2, 42), (0, a1), (0, v51032), (0, x3)]) (Nat.le_of_ble_eq_true rfl) rfl ?_
        refine ev_iinc (w := (x3 + 1)) (L' := [(2, 42), (0, a1), (0, v51032), (0, (x3 + 1))]) rfl (by unfold w32; omega) rfl ?_
        refine ev_goto f288_4 ?_
        exact ih.1 _ _ _ g51030 k51030 (by omega) (by omega) (by omega) (by omega) (by omega) (by omega) (by omega)
    · intro h1 x2 x3 g1 k1 b0 b1 b2 b3 b4 b5 hm
      refine ev_iload_n rfl ?_
      refine ev_iload_n rfl ?_
      refine ev_icmple f288_44 (fun c51033 => ?_) (fun c51033 => ?_)
      · refine ev_iload_n rfl ?_
        exact ev_ret rfl (by decide) (by decide) ⟨_, rfl, by omega, by omega, g1, k1⟩
      · refine ev_iload_n rfl ?_
        refine ev_aload_n rfl ?_
        refine ev_iload_n rfl ?_
        refine ev_call (jcall_v (A := [(0, x3)]) (S' := [(0, x2)]) (r := 42) rfl (g1.lt ad42) (g1.tg ad42) (Nat.le_of_ble_eq_true rfl)) (jOk_le (by decide) (s287 g1 (by omega) (by omega))) (by decide) (by decide) (fun w51034 h51034 q51034 => ?_)
        obtain ⟨v51035, rfl, lv51035, uv51035, g51034, kk51034⟩ := q51034
        have k51034 := k1.tr kk51034 (by decide)
        show jEv _ _ _ _ _ _ _ (_, [(2, 42), (0, a1), (0, x2), (0, x3)], [(0, v51035), (0, x2)], _, _, _)
        refine g_isubG (fun v51036 ev51036 lv51036 uv51036 => ?_)
        refine ev_istore_n (L' := [(2, 42), (0, a1), (0, v51036), (0, x3)]) (Nat.le_of_ble_eq_true rfl) rfl ?_
        refine ev_iinc (w := (x3 - 1)) (L' := [(2, 42), (0, a1), (0, v51036), (0, (x3 - 1))]) rfl (by unfold w32; omega) rfl ?_
        refine ev_goto f288_25 ?_
        exact ih.2 _ _ _ g51034 k51034 (by omega) (by omega) (by omega) (by omega) (by omega) (by omega) (by omega)
set_option maxHeartbeats 4000000 in
theorem s288 {G : GH} {h : JH} (g : Gd G h) {a1 : Int} (la1 : (-1000000) ≤ a1) (ua1 : a1 ≤ 1000000) : jOk 2 0 0 288 [(2, 42), (0, a1)] h (PI G [] h 0 (-2147483648) 2147483647) := by
  refine ⟨by decide, by rw [ml288]; exact Nat.le_of_ble_eq_true rfl, ?_⟩
  rw [ml288, pp288]
  show jEv _ none _ c288_0 0 0 _ (c288_0, [(2, 42), (0, a1), (9, 0), (9, 0)], [], h, 0, 0)
  have k0 := Kp.rf [] h
  refine ev_iconst ?_
  refine ev_istore_n (L' := [(2, 42), (0, a1), (0, 0), (9, 0)]) (Nat.le_of_ble_eq_true rfl) rfl ?_
  refine ev_iconst ?_
  refine ev_istore_n (L' := [(2, 42), (0, a1), (0, 0), (0, 1)]) (Nat.le_of_ble_eq_true rfl) rfl ?_
  exact (s288_l la1 ua1 3000000003).1 _ _ _ g k0 (by omega) (by omega) (by omega) (by omega) (by omega) (by omega) (by omega)
/-! 289 countsBy -/
set_option maxHeartbeats 4000000 in
theorem s289 {G : GH} {h : JH} (g : Gd G h) {a1 : Int} (la1 : (-2147483648) ≤ a1) (ua1 : a1 ≤ 2147483647) {a2 : Int} (la2 : (-2147483648) ≤ a2) (ua2 : a2 ≤ 2147483647) {a3 : Int} (la3 : (-1000000) ≤ a3) (ua3 : a3 ≤ 1000000) : jOk 3 0 0 289 [(2, 42), (0, a1), (0, a2), (0, a3)] h (PI G [] h 0 (-2147483648) 2147483647) := by
  refine ⟨by decide, by rw [ml289]; exact Nat.le_of_ble_eq_true rfl, ?_⟩
  rw [ml289, pp289]
  show jEv _ none _ c289_0 0 0 _ (c289_0, [(2, 42), (0, a1), (0, a2), (0, a3)], [], h, 0, 0)
  have k0 := Kp.rf [] h
  refine ev_iload_n rfl ?_
  refine ev_iconst ?_
  refine ev_icmpeq f289_10 (fun c51059 => ?_) (fun c51059 => ?_)
  · refine ev_aload_n rfl ?_
    refine ev_iload_n rfl ?_
    refine ev_call (jcall_v (A := [(0, a3)]) (S' := []) (r := 42) rfl (g.lt ad42) (g.tg ad42) (Nat.le_of_ble_eq_true rfl)) (jOk_le (by decide) (s288 g (by omega) (by omega))) (by decide) (by decide) (fun w51060 h51060 q51060 => ?_)
    obtain ⟨v51061, rfl, lv51061, uv51061, g51060, kk51060⟩ := q51060
    have k51060 := k0.tr kk51060 (by decide)
    show jEv _ _ _ _ _ _ _ (_, [(2, 42), (0, a1), (0, a2), (0, a3)], [(0, v51061)], _, _, _)
    exact ev_ret rfl (by decide) (by decide) ⟨_, rfl, by omega, by omega, g51060, k51060⟩
  · refine ev_iload_n rfl ?_
    refine ev_iconst ?_
    refine ev_icmpne f289_16 (fun c51062 => ?_) (fun c51062 => ?_)
    · refine ev_iload_n rfl ?_
      refine ev_iconst ?_
      refine ev_icmplt f289_30 (fun c51063 => ?_) (fun c51063 => ?_)
      · refine ev_bipush ?_
        refine ev_iload_n rfl ?_
        refine ev_imul (r := (100 * a3)) (by unfold w32; omega) ?_
        refine ev_goto f289_40 ?_
        exact ev_ret rfl (by decide) (by decide) ⟨_, rfl, by omega, by omega, g, k0⟩
      · refine ev_iload_n rfl ?_
        refine ev_iconst ?_
        refine ev_icmpne f289_37 (fun c51064 => ?_) (fun c51064 => ?_)
        · refine ev_iload_n rfl ?_
          refine ev_iload_n rfl ?_
          refine g_imulG (fun v51065 ev51065 lv51065 uv51065 => ?_)
          exact ev_ret rfl (by decide) (by decide) ⟨_, rfl, by omega, by omega, g, k0⟩
        · refine ev_iload_n rfl ?_
          refine ev_ifge f289_37 (fun c51066 => ?_) (fun c51066 => ?_)
          · refine ev_iload_n rfl ?_
            refine ev_iload_n rfl ?_
            refine g_imulG (fun v51067 ev51067 lv51067 uv51067 => ?_)
            exact ev_ret rfl (by decide) (by decide) ⟨_, rfl, by omega, by omega, g, k0⟩
          · refine ev_bipush ?_
            refine ev_iload_n rfl ?_
            refine ev_imul (r := (100 * a3)) (by unfold w32; omega) ?_
            refine ev_goto f289_40 ?_
            exact ev_ret rfl (by decide) (by decide) ⟨_, rfl, by omega, by omega, g, k0⟩
    · refine ev_aload_n rfl ?_
      refine ev_iload_n rfl ?_
      refine ev_call (jcall_v (A := [(0, a3)]) (S' := []) (r := 42) rfl (g.lt ad42) (g.tg ad42) (Nat.le_of_ble_eq_true rfl)) (jOk_le (by decide) (s288 g (by omega) (by omega))) (by decide) (by decide) (fun w51068 h51068 q51068 => ?_)
      obtain ⟨v51069, rfl, lv51069, uv51069, g51068, kk51068⟩ := q51068
      have k51068 := k0.tr kk51068 (by decide)
      show jEv _ _ _ _ _ _ _ (_, [(2, 42), (0, a1), (0, a2), (0, a3)], [(0, v51069)], _, _, _)
      exact ev_ret rfl (by decide) (by decide) ⟨_, rfl, by omega, by omega, g51068, k51068⟩
/-! 290 counts -/
set_option maxHeartbeats 4000000 in
theorem s290 {G : GH} {h : JH} (g : Gd G h) {a1 : Int} (la1 : (-2147483648) ≤ a1) (ua1 : a1 ≤ 2147483647) {a2 : Int} (la2 : (-2147483648) ≤ a2) (ua2 : a2 ≤ 2147483647) : jOk 4 0 0 290 [(2, 42), (0, a1), (0, a2)] h (PI G [] h 0 (-2147483648) 2147483647) := by
  refine ⟨by decide, by rw [ml290]; exact Nat.le_of_ble_eq_true rfl, ?_⟩
  rw [ml290, pp290]
  show jEv _ none _ c290_0 0 0 _ (c290_0, [(2, 42), (0, a1), (0, a2)], [], h, 0, 0)
  have k0 := Kp.rf [] h
  refine ev_aload_n rfl ?_
  refine ev_iload_n rfl ?_
  refine ev_in (d := 2) (a := 0) (b := 0) (cd' := c284_0) (m := 2) (L0 := [(2, 42), (0, a1)]) (jcall_v (A := [(0, a1)]) (S' := []) (r := 42) rfl (g.lt ad42) (g.tg ad42) (Nat.le_of_ble_eq_true rfl)) (by decide) ml284 pp284 (Nat.le_of_ble_eq_true rfl) rfl (by decide) (by decide) ?_
  refine ev_iload_n rfl ?_
  refine ev_iconst ?_
  refine ev_aload_n rfl ?_
  obtain ⟨v51100, ev51100, lv51100, uv51100⟩ := g.rd ad42 (show 28 < 66 by decide) rf42_28
  refine g_getv (r := 42) (v := v51100) g ad42 (by decide) ft12_28 ev51100 ?_
  refine ev_iconst ?_
  refine ev_isub (r := (v51100 - 1)) (by unfold w32; omega) ?_
  refine ev_in (d := 1) (a := 0) (b := 0) (cd' := c242_0) (m := 3) (L0 := [(0, a1), (0, 0), (0, (v51100 - 1))]) (jcall_s (A := [(0, (v51100 - 1)), (0, 0), (0, a1)]) (S' := []) (by decide) rfl (Nat.le_of_ble_eq_true rfl)) (by decide) ml242 pp242 (Nat.le_of_ble_eq_true rfl) rfl (by decide) (by decide) ?_
  refine ev_iload_n rfl ?_
  refine ev_iload_n rfl ?_
  refine ev_icmplt f242_14 (fun c51101 => ?_) (fun c51101 => ?_)
  · refine ev_iconst ?_
    refine ev_ret rfl (by decide) (by decide) ?_
    show jEv _ _ _ _ _ _ _ (_, [(2, 42), (0, a1)], [(0, 0)], _, _, _)
    refine ev_ret rfl (by decide) (by decide) ?_
    show jEv _ _ _ _ _ _ _ (_, [(2, 42), (0, a1), (0, a2)], [(0, 0)], _, _, _)
    refine ev_ifeq f290_41 (fun c51102 => ?_) (fun c51102 => absurd c51102 (by omega))
    refine ev_ldc_w ?_
    exact ev_ret rfl (by decide) (by decide) ⟨_, rfl, by omega, by omega, g, k0⟩
  · refine ev_iload_n rfl ?_
    refine ev_iload_n rfl ?_
    refine ev_icmpgt f242_14 (fun c51103 => ?_) (fun c51103 => ?_)
    · refine ev_iconst ?_
      refine ev_ret rfl (by decide) (by decide) ?_
      show jEv _ _ _ _ _ _ _ (_, [(2, 42), (0, a1)], [(0, 0)], _, _, _)
      refine ev_ret rfl (by decide) (by decide) ?_
      show jEv _ _ _ _ _ _ _ (_, [(2, 42), (0, a1), (0, a2)], [(0, 0)], _, _, _)
      refine ev_ifeq f290_41 (fun c51104 => ?_) (fun c51104 => absurd c51104 (by omega))
      refine ev_ldc_w ?_
      exact ev_ret rfl (by decide) (by decide) ⟨_, rfl, by omega, by omega, g, k0⟩
    · refine ev_iconst ?_
      refine ev_goto f242_15 ?_
      refine ev_ret rfl (by decide) (by decide) ?_
      show jEv _ _ _ _ _ _ _ (_, [(2, 42), (0, a1)], [(0, 1)], _, _, _)
      refine ev_ret rfl (by decide) (by decide) ?_
      show jEv _ _ _ _ _ _ _ (_, [(2, 42), (0, a1), (0, a2)], [(0, 1)], _, _, _)
      refine ev_ifeq f290_41 (fun c51105 => absurd c51105 (by omega)) (fun c51105 => ?_)
      refine ev_iload_n rfl ?_
      refine ev_sipush ?_
      refine ev_sipush ?_
      refine ev_in (d := 2) (a := 0) (b := 0) (cd' := c242_0) (m := 3) (L0 := [(0, a2), (0, (-9999)), (0, 9999)]) (jcall_s (A := [(0, 9999), (0, (-9999)), (0, a2)]) (S' := []) (by decide) rfl (Nat.le_of_ble_eq_true rfl)) (by decide) ml242 pp242 (Nat.le_of_ble_eq_true rfl) rfl (by decide) (by decide) ?_
      refine ev_iload_n rfl ?_
      refine ev_iload_n rfl ?_
      refine ev_icmplt f242_14 (fun c51106 => ?_) (fun c51106 => ?_)
      · refine ev_iconst ?_
        refine ev_ret rfl (by decide) (by decide) ?_
        show jEv _ _ _ _ _ _ _ (_, [(2, 42), (0, a1), (0, a2)], [(0, 0)], _, _, _)
        refine ev_ifeq f290_41 (fun c51107 => ?_) (fun c51107 => absurd c51107 (by omega))
        refine ev_ldc_w ?_
        exact ev_ret rfl (by decide) (by decide) ⟨_, rfl, by omega, by omega, g, k0⟩
      · refine ev_iload_n rfl ?_
        refine ev_iload_n rfl ?_
        refine ev_icmpgt f242_14 (fun c51108 => ?_) (fun c51108 => ?_)
        · refine ev_iconst ?_
          refine ev_ret rfl (by decide) (by decide) ?_
          show jEv _ _ _ _ _ _ _ (_, [(2, 42), (0, a1), (0, a2)], [(0, 0)], _, _, _)
          refine ev_ifeq f290_41 (fun c51109 => ?_) (fun c51109 => absurd c51109 (by omega))
          refine ev_ldc_w ?_
          exact ev_ret rfl (by decide) (by decide) ⟨_, rfl, by omega, by omega, g, k0⟩
        · refine ev_iconst ?_
          refine ev_goto f242_15 ?_
          refine ev_ret rfl (by decide) (by decide) ?_
          show jEv _ _ _ _ _ _ _ (_, [(2, 42), (0, a1), (0, a2)], [(0, 1)], _, _, _)
          refine ev_ifeq f290_41 (fun c51110 => absurd c51110 (by omega)) (fun c51110 => ?_)
          refine ev_aload_n rfl ?_
          refine ev_aload_n rfl ?_
          refine g_getp (r := 42) (c := 60) g ad42 (by decide) (by decide) rf42_29 ft12_29 ?_
          refine ev_iload_n rfl ?_
          refine g_iald g ad60 rt60 (by omega) (by omega) (fun v51111 ev51111 lv51111 uv51111 => ?_)
          refine ev_aload_n rfl ?_
          refine g_getp (r := 42) (c := 61) g ad42 (by decide) (by decide) rf42_30 ft12_30 ?_
          refine ev_iload_n rfl ?_
          refine g_iald g ad61 rt61 (by omega) (by omega) (fun v51112 ev51112 lv51112 uv51112 => ?_)
          refine ev_iload_n rfl ?_
          refine ev_call (jcall_v (A := [(0, a2), (0, v51112), (0, v51111)]) (S' := []) (r := 42) rfl (g.lt ad42) (g.tg ad42) (Nat.le_of_ble_eq_true rfl)) (jOk_le (by decide) (s289 g (by omega) (by omega) (by omega) (by omega) (by omega) (by omega))) (by decide) (by decide) (fun w51113 h51113 q51113 => ?_)
          obtain ⟨v51114, rfl, lv51114, uv51114, g51113, kk51113⟩ := q51113
          have k51113 := k0.tr kk51113 (by decide)
          show jEv _ _ _ _ _ _ _ (_, [(2, 42), (0, a1), (0, a2)], [(0, v51114)], _, _, _)
          refine ev_goto f290_44 ?_
          exact ev_ret rfl (by decide) (by decide) ⟨_, rfl, by omega, by omega, g51113, k51113⟩
/-! 356 ran -/
set_option maxHeartbeats 4000000 in
theorem s356 {G : GH} {h : JH} (g : Gd G h) {a1 : Int} (la1 : (-2147483648) ≤ a1) (ua1 : a1 ≤ 2147483647) {w0 : Int} (ew0 : h.2.2 42 60 = w0) (lw0 : 0 ≤ w0) (uw0 : w0 ≤ 999) : jOk 1 0 0 356 [(2, 42), (0, a1)] h (fun v h' => PV G [(42, 61), (78, 0)] h v h' ∧ h'.2.2 42 60 ≤ w0 + 1) := by
  refine ⟨by decide, by rw [ml356]; exact Nat.le_of_ble_eq_true rfl, ?_⟩
  rw [ml356, pp356]
  show jEv _ none _ c356_0 0 0 _ (c356_0, [(2, 42), (0, a1)], [], h, 0, 0)
  have k0 := Kp.rf [(42, 61), (78, 0)] h
  refine ev_aload_n rfl ?_
  refine g_getv (r := 42) (v := w0) g ad42 (by decide) ft12_60 (ew0) ?_
  refine ev_bipush ?_
  refine ev_icmpge f356_19 (fun c51123 => ?_) (fun c51123 => ?_)
  · refine ev_aload_n rfl ?_
    refine ev_dup (by decide) ?_
    refine g_getv (r := 42) (v := w0) g ad42 (by decide) ft12_60 (ew0) ?_
    refine ev_iconst ?_
    refine ev_iadd (r := (w0 + 1)) (by unfold w32; omega) ?_
    refine g_putf (r := 42) g ad42 (by decide) ft12_60 (by decide) (fun e => absurd e nz12_60) rf42_60 (by decide) (by omega) (by omega) (fun h51124 e51124 g51124 => ?_)
    have k51124 := k0.wr e51124 rfl
    exact ev_ret rfl (by decide) (by decide) ⟨⟨rfl, g51124, k51124⟩, Int.le_trans (Int.le_of_eq ((jw_eq e51124))) (by omega)⟩
  · refine ev_aload_n rfl ?_
    refine g_getp (r := 42) (c := 78) g ad42 (by decide) (by decide) rf42_61 ft12_61 ?_
    refine ev_aload_n rfl ?_
    refine g_getv (r := 42) (v := w0) g ad42 (by decide) ft12_60 (ew0) ?_
    refine ev_iload_n rfl ?_
    refine g_iast g ad78 rt78 (fun _ => rfl) (by omega) (by omega) (by omega) (by omega) (fun h51125 e51125 g51125 => ?_)
    have k51125 := k0.wr e51125 rfl
    refine ev_aload_n rfl ?_
    refine ev_dup (by decide) ?_
    refine g_getv (r := 42) (v := w0) g51125 ad42 (by decide) ft12_60 (((jw_ne e51125 (Or.inl (by decide))).trans ew0)) ?_
    refine ev_iconst ?_
    refine ev_iadd (r := (w0 + 1)) (by unfold w32; omega) ?_
    refine g_putf (r := 42) g51125 ad42 (by decide) ft12_60 (by decide) (fun e => absurd e nz12_60) rf42_60 (by decide) (by omega) (by omega) (fun h51126 e51126 g51126 => ?_)
    have k51126 := k51125.wr e51126 rfl
    exact ev_ret rfl (by decide) (by decide) ⟨⟨rfl, g51126, k51126⟩, Int.le_trans (Int.le_of_eq ((jw_eq e51126))) (by omega)⟩
/-! 357 plainPays -/
set_option maxHeartbeats 4000000 in
theorem s357 {G : GH} {h : JH} (g : Gd G h) {a1 : Int} (la1 : 0 ≤ a1) (ua1 : a1 ≤ 19) {a2 : Int} (la2 : (-2147483648) ≤ a2) (ua2 : a2 ≤ 2147483647) {w0 : Int} (ew0 : h.2.2 42 60 = w0) (lw0 : 0 ≤ w0) (uw0 : w0 ≤ 999) : jOk 2 0 0 357 [(2, 42), (0, a1), (0, a2)] h (fun v h' => PI G [(42, 61), (78, 0)] h 0 (-2147483648) 2147483647 v h' ∧ h'.2.2 42 60 ≤ w0 + 1) := by
  refine ⟨by decide, by rw [ml357]; exact Nat.le_of_ble_eq_true rfl, ?_⟩
  rw [ml357, pp357]
  show jEv _ none _ c357_0 0 0 _ (c357_0, [(2, 42), (0, a1), (0, a2)], [], h, 0, 0)
  have k0 := Kp.rf [(42, 61), (78, 0)] h
  refine ev_aload_n rfl ?_
  refine ev_iconst ?_
  refine ev_call (jcall_v (A := [(0, 1)]) (S' := []) (r := 42) rfl (g.lt ad42) (g.tg ad42) (Nat.le_of_ble_eq_true rfl)) (jOk_le (by decide) (s356 g (by omega) (by omega) (ew0) (by omega) (by omega))) (by decide) (by decide) (fun w51133 h51133 q51133 => ?_)
  obtain ⟨q51133, fp51133⟩ := q51133
  obtain ⟨rfl, g51133, kk51133⟩ := q51133
  have k51133 := k0.tr kk51133 (by decide)
  obtain ⟨v51134, ev51134, lv51134, uv51134⟩ := g51133.rd ad42 (show 60 < 66 by decide) rf42_60
  rw [ev51134] at fp51133
  show jEv _ _ _ _ _ _ _ (_, [(2, 42), (0, a1), (0, a2)], [], _, _, _)
  refine ev_iload_n rfl ?_
  refine ev_iload_n rfl ?_
  refine g_iaddG (fun v51135 ev51135 lv51135 uv51135 => ?_)
  exact ev_ret rfl (by decide) (by decide) ⟨⟨_, rfl, by omega, by omega, g51133, k51133⟩, Int.le_trans (Int.le_of_eq (ev51134)) (by omega)⟩
/-! 358 partPays -/
set_option maxHeartbeats 4000000 in
theorem s358 {G : GH} {h : JH} (g : Gd G h) {a1 : Int} (la1 : 0 ≤ a1) (ua1 : a1 ≤ 19) {a2 : Int} (la2 : (-2147483648) ≤ a2) (ua2 : a2 ≤ 2147483647) {w0 : Int} (ew0 : h.2.2 42 60 = w0) (lw0 : 0 ≤ w0) (uw0 : w0 ≤ 998) : jOk 3 0 0 358 [(2, 42), (0, a1), (0, a2)] h (fun v h' => PI G [(42, 61), (78, 0)] h 0 (-2147483648) 2147483647 v h' ∧ h'.2.2 42 60 ≤ w0 + 2) := by
  refine ⟨by decide, by rw [ml358]; exact Nat.le_of_ble_eq_true rfl, ?_⟩
  rw [ml358, pp358]
  show jEv _ none _ c358_0 0 0 _ (c358_0, [(2, 42), (0, a1), (0, a2)], [], h, 0, 0)
  have k0 := Kp.rf [(42, 61), (78, 0)] h
  refine ev_aload_n rfl ?_
  refine ev_bipush ?_
  refine ev_call (jcall_v (A := [(0, 50)]) (S' := []) (r := 42) rfl (g.lt ad42) (g.tg ad42) (Nat.le_of_ble_eq_true rfl)) (jOk_le (by decide) (s356 g (by omega) (by omega) (ew0) (by omega) (by omega))) (by decide) (by decide) (fun w51150 h51150 q51150 => ?_)
  obtain ⟨q51150, fp51150⟩ := q51150
  obtain ⟨rfl, g51150, kk51150⟩ := q51150
  have k51150 := k0.tr kk51150 (by decide)
  obtain ⟨v51151, ev51151, lv51151, uv51151⟩ := g51150.rd ad42 (show 60 < 66 by decide) rf42_60
  rw [ev51151] at fp51150
  show jEv _ _ _ _ _ _ _ (_, [(2, 42), (0, a1), (0, a2)], [], _, _, _)
  refine ev_aload_n rfl ?_
  refine ev_iload_n rfl ?_
  refine ev_iload_n rfl ?_
  refine ev_call (jcall_v (A := [(0, a2), (0, a1)]) (S' := []) (r := 42) rfl (g51150.lt ad42) (g51150.tg ad42) (Nat.le_of_ble_eq_true rfl)) (jOk_le (by decide) (s357 g51150 (by omega) (by omega) (by omega) (by omega) (ev51151) (by omega) (by omega))) (by decide) (by decide) (fun w51152 h51152 q51152 => ?_)
  obtain ⟨q51152, fp51152⟩ := q51152
  obtain ⟨v51153, rfl, lv51153, uv51153, g51152, kk51152⟩ := q51152
  have k51152 := k51150.tr kk51152 (by decide)
  obtain ⟨v51154, ev51154, lv51154, uv51154⟩ := g51152.rd ad42 (show 60 < 66 by decide) rf42_60
  rw [ev51154] at fp51152
  show jEv _ _ _ _ _ _ _ (_, [(2, 42), (0, a1), (0, a2)], [(0, v51153)], _, _, _)
  refine ev_aload_n rfl ?_
  refine g_getp (r := 42) (c := 61) g51152 ad42 (by decide) (by decide) rf42_30 ft12_30 ?_
  refine ev_iload_n rfl ?_
  refine g_iald g51152 ad61 rt61 (by omega) (by omega) (fun v51155 ev51155 lv51155 uv51155 => ?_)
  refine g_iaddG (fun v51156 ev51156 lv51156 uv51156 => ?_)
  exact ev_ret rfl (by decide) (by decide) ⟨⟨_, rfl, by omega, by omega, g51152, k51152⟩, Int.le_trans (Int.le_of_eq (ev51154)) (by omega)⟩
/-! 359 pays -/
set_option maxHeartbeats 4000000 in
theorem s359 {G : GH} {h : JH} (g : Gd G h) {a1 : Int} (la1 : 0 ≤ a1) (ua1 : a1 ≤ 19) {a2 : Int} (la2 : (-2147483648) ≤ a2) (ua2 : a2 ≤ 2147483647) {w0 : Int} (ew0 : h.2.2 42 60 = w0) (lw0 : 0 ≤ w0) (uw0 : w0 ≤ 997) : jOk 4 0 0 359 [(2, 42), (0, a1), (0, a2)] h (fun v h' => PI G [(42, 61), (78, 0)] h 0 (-2147483648) 2147483647 v h' ∧ h'.2.2 42 60 ≤ w0 + 3) := by
  refine ⟨by decide, by rw [ml359]; exact Nat.le_of_ble_eq_true rfl, ?_⟩
  rw [ml359, pp359]
  show jEv _ none _ c359_0 0 0 _ (c359_0, [(2, 42), (0, a1), (0, a2)], [], h, 0, 0)
  have k0 := Kp.rf [(42, 61), (78, 0)] h
  refine ev_aload_n rfl ?_
  refine g_getp (r := 42) (c := 60) g ad42 (by decide) (by decide) rf42_29 ft12_29 ?_
  refine ev_iload_n rfl ?_
  refine g_iald g ad60 rt60 (by omega) (by omega) (fun v51187 ev51187 lv51187 uv51187 => ?_)
  refine ev_iconst ?_
  refine ev_icmpne f359_24 (fun c51188 => ?_) (fun c51188 => ?_)
  · refine ev_aload_n rfl ?_
    refine g_getp (r := 42) (c := 60) g ad42 (by decide) (by decide) rf42_29 ft12_29 ?_
    refine ev_iload_n rfl ?_
    refine g_ialdv (v := v51187) g ad60 (by omega) (by omega) (ev51187) ?_
    refine ev_iconst ?_
    refine ev_icmpne f359_43 (fun c51189 => ?_) (fun c51189 => ?_)
    · refine ev_aload_n rfl ?_
      refine ev_iload_n rfl ?_
      refine ev_iload_n rfl ?_
      refine ev_call (jcall_v (A := [(0, a2), (0, a1)]) (S' := []) (r := 42) rfl (g.lt ad42) (g.tg ad42) (Nat.le_of_ble_eq_true rfl)) (jOk_le (by decide) (s357 g (by omega) (by omega) (by omega) (by omega) (ew0) (by omega) (by omega))) (by decide) (by decide) (fun w51190 h51190 q51190 => ?_)
      obtain ⟨q51190, fp51190⟩ := q51190
      obtain ⟨v51191, rfl, lv51191, uv51191, g51190, kk51190⟩ := q51190
      have k51190 := k0.tr kk51190 (by decide)
      obtain ⟨v51192, ev51192, lv51192, uv51192⟩ := g51190.rd ad42 (show 60 < 66 by decide) rf42_60
      rw [ev51192] at fp51190
      show jEv _ _ _ _ _ _ _ (_, [(2, 42), (0, a1), (0, a2)], [(0, v51191)], _, _, _)
      exact ev_ret rfl (by decide) (by decide) ⟨⟨_, rfl, by omega, by omega, g51190, k51190⟩, Int.le_trans (Int.le_of_eq (ev51192)) (by omega)⟩
    · refine ev_aload_n rfl ?_
      refine ev_iload_n rfl ?_
      refine ev_iload_n rfl ?_
      refine ev_call (jcall_v (A := [(0, a2), (0, a1)]) (S' := []) (r := 42) rfl (g.lt ad42) (g.tg ad42) (Nat.le_of_ble_eq_true rfl)) (jOk_le (by decide) (s358 g (by omega) (by omega) (by omega) (by omega) (ew0) (by omega) (by omega))) (by decide) (by decide) (fun w51193 h51193 q51193 => ?_)
      obtain ⟨q51193, fp51193⟩ := q51193
      obtain ⟨v51194, rfl, lv51194, uv51194, g51193, kk51193⟩ := q51193
      have k51193 := k0.tr kk51193 (by decide)
      obtain ⟨v51195, ev51195, lv51195, uv51195⟩ := g51193.rd ad42 (show 60 < 66 by decide) rf42_60
      rw [ev51195] at fp51193
      show jEv _ _ _ _ _ _ _ (_, [(2, 42), (0, a1), (0, a2)], [(0, v51194)], _, _, _)
      refine ev_goto f359_49 ?_
      exact ev_ret rfl (by decide) (by decide) ⟨⟨_, rfl, by omega, by omega, g51193, k51193⟩, Int.le_trans (Int.le_of_eq (ev51195)) (by omega)⟩
  · refine ev_aload_n rfl ?_
    refine ev_bipush ?_
    refine ev_call (jcall_v (A := [(0, 60)]) (S' := []) (r := 42) rfl (g.lt ad42) (g.tg ad42) (Nat.le_of_ble_eq_true rfl)) (jOk_le (by decide) (s356 g (by omega) (by omega) (ew0) (by omega) (by omega))) (by decide) (by decide) (fun w51196 h51196 q51196 => ?_)
    obtain ⟨q51196, fp51196⟩ := q51196
    obtain ⟨rfl, g51196, kk51196⟩ := q51196
    have k51196 := k0.tr kk51196 (by decide)
    obtain ⟨v51197, ev51197, lv51197, uv51197⟩ := g51196.rd ad42 (show 60 < 66 by decide) rf42_60
    rw [ev51197] at fp51196
    show jEv _ _ _ _ _ _ _ (_, [(2, 42), (0, a1), (0, a2)], [], _, _, _)
    refine ev_aload_n rfl ?_
    refine ev_iload_n rfl ?_
    refine ev_iload_n rfl ?_
    refine ev_call (jcall_v (A := [(0, a2), (0, a1)]) (S' := []) (r := 42) rfl (g51196.lt ad42) (g51196.tg ad42) (Nat.le_of_ble_eq_true rfl)) (jOk_le (by decide) (s358 g51196 (by omega) (by omega) (by omega) (by omega) (ev51197) (by omega) (by omega))) (by decide) (by decide) (fun w51198 h51198 q51198 => ?_)
    obtain ⟨q51198, fp51198⟩ := q51198
    obtain ⟨v51199, rfl, lv51199, uv51199, g51198, kk51198⟩ := q51198
    have k51198 := k51196.tr kk51198 (by decide)
    obtain ⟨v51200, ev51200, lv51200, uv51200⟩ := g51198.rd ad42 (show 60 < 66 by decide) rf42_60
    rw [ev51200] at fp51198
    show jEv _ _ _ _ _ _ _ (_, [(2, 42), (0, a1), (0, a2)], [(0, v51199)], _, _, _)
    refine g_inegG (fun v51201 ev51201 lv51201 uv51201 => ?_)
    exact ev_ret rfl (by decide) (by decide) ⟨⟨_, rfl, by omega, by omega, g51198, k51198⟩, Int.le_trans (Int.le_of_eq (ev51200)) (by omega)⟩
/-! 360 plainFeels -/
set_option maxHeartbeats 4000000 in
theorem s360 {G : GH} {h : JH} (g : Gd G h) {a1 : Int} (la1 : 0 ≤ a1) (ua1 : a1 ≤ 19) {a2 : Int} (la2 : (-2147483648) ≤ a2) (ua2 : a2 ≤ 2147483647) {w0 : Int} (ew0 : h.2.2 42 60 = w0) (lw0 : 0 ≤ w0) (uw0 : w0 ≤ 996) : jOk 5 0 0 360 [(2, 42), (0, a1), (0, a2)] h (fun v h' => PI G [(42, 61), (78, 0)] h 0 (-2147483648) 2147483647 v h' ∧ h'.2.2 42 60 ≤ w0 + 4) := by
  refine ⟨by decide, by rw [ml360]; exact Nat.le_of_ble_eq_true rfl, ?_⟩
  rw [ml360, pp360]
  show jEv _ none _ c360_0 0 0 _ (c360_0, [(2, 42), (0, a1), (0, a2)], [], h, 0, 0)
  have k0 := Kp.rf [(42, 61), (78, 0)] h
  refine ev_aload_n rfl ?_
  refine ev_bipush ?_
  refine ev_call (jcall_v (A := [(0, 10)]) (S' := []) (r := 42) rfl (g.lt ad42) (g.tg ad42) (Nat.le_of_ble_eq_true rfl)) (jOk_le (by decide) (s356 g (by omega) (by omega) (ew0) (by omega) (by omega))) (by decide) (by decide) (fun w51214 h51214 q51214 => ?_)
  obtain ⟨q51214, fp51214⟩ := q51214
  obtain ⟨rfl, g51214, kk51214⟩ := q51214
  have k51214 := k0.tr kk51214 (by decide)
  obtain ⟨v51215, ev51215, lv51215, uv51215⟩ := g51214.rd ad42 (show 60 < 66 by decide) rf42_60
  rw [ev51215] at fp51214
  show jEv _ _ _ _ _ _ _ (_, [(2, 42), (0, a1), (0, a2)], [], _, _, _)
  refine ev_aload_n rfl ?_
  refine ev_iload_n rfl ?_
  refine ev_iload_n rfl ?_
  refine ev_call (jcall_v (A := [(0, a2), (0, a1)]) (S' := []) (r := 42) rfl (g51214.lt ad42) (g51214.tg ad42) (Nat.le_of_ble_eq_true rfl)) (jOk_le (by decide) (s359 g51214 (by omega) (by omega) (by omega) (by omega) (ev51215) (by omega) (by omega))) (by decide) (by decide) (fun w51216 h51216 q51216 => ?_)
  obtain ⟨q51216, fp51216⟩ := q51216
  obtain ⟨v51217, rfl, lv51217, uv51217, g51216, kk51216⟩ := q51216
  have k51216 := k51214.tr kk51216 (by decide)
  obtain ⟨v51218, ev51218, lv51218, uv51218⟩ := g51216.rd ad42 (show 60 < 66 by decide) rf42_60
  rw [ev51218] at fp51216
  show jEv _ _ _ _ _ _ _ (_, [(2, 42), (0, a1), (0, a2)], [(0, v51217)], _, _, _)
  refine ev_iconst ?_
  refine g_imulG (fun v51219 ev51219 lv51219 uv51219 => ?_)
  exact ev_ret rfl (by decide) (by decide) ⟨⟨_, rfl, by omega, by omega, g51216, k51216⟩, Int.le_trans (Int.le_of_eq (ev51218)) (by omega)⟩
/-! 361 feltFeels -/
set_option maxHeartbeats 4000000 in
theorem s361 {G : GH} {h : JH} (g : Gd G h) {a1 : Int} (la1 : 0 ≤ a1) (ua1 : a1 ≤ 19) {a2 : Int} (la2 : (-2147483648) ≤ a2) (ua2 : a2 ≤ 2147483647) {w0 : Int} (ew0 : h.2.2 42 60 = w0) (lw0 : 0 ≤ w0) (uw0 : w0 ≤ 995) : jOk 6 0 0 361 [(2, 42), (0, a1), (0, a2)] h (fun v h' => PI G [(42, 61), (78, 0)] h 0 (-2147483648) 2147483647 v h' ∧ h'.2.2 42 60 ≤ w0 + 5) := by
  refine ⟨by decide, by rw [ml361]; exact Nat.le_of_ble_eq_true rfl, ?_⟩
  rw [ml361, pp361]
  show jEv _ none _ c361_0 0 0 _ (c361_0, [(2, 42), (0, a1), (0, a2)], [], h, 0, 0)
  have k0 := Kp.rf [(42, 61), (78, 0)] h
  refine ev_aload_n rfl ?_
  refine ev_bipush ?_
  refine ev_call (jcall_v (A := [(0, 20)]) (S' := []) (r := 42) rfl (g.lt ad42) (g.tg ad42) (Nat.le_of_ble_eq_true rfl)) (jOk_le (by decide) (s356 g (by omega) (by omega) (ew0) (by omega) (by omega))) (by decide) (by decide) (fun w51232 h51232 q51232 => ?_)
  obtain ⟨q51232, fp51232⟩ := q51232
  obtain ⟨rfl, g51232, kk51232⟩ := q51232
  have k51232 := k0.tr kk51232 (by decide)
  obtain ⟨v51233, ev51233, lv51233, uv51233⟩ := g51232.rd ad42 (show 60 < 66 by decide) rf42_60
  rw [ev51233] at fp51232
  show jEv _ _ _ _ _ _ _ (_, [(2, 42), (0, a1), (0, a2)], [], _, _, _)
  refine ev_aload_n rfl ?_
  refine ev_iload_n rfl ?_
  refine ev_iload_n rfl ?_
  refine ev_call (jcall_v (A := [(0, a2), (0, a1)]) (S' := []) (r := 42) rfl (g51232.lt ad42) (g51232.tg ad42) (Nat.le_of_ble_eq_true rfl)) (jOk_le (by decide) (s360 g51232 (by omega) (by omega) (by omega) (by omega) (ev51233) (by omega) (by omega))) (by decide) (by decide) (fun w51234 h51234 q51234 => ?_)
  obtain ⟨q51234, fp51234⟩ := q51234
  obtain ⟨v51235, rfl, lv51235, uv51235, g51234, kk51234⟩ := q51234
  have k51234 := k51232.tr kk51234 (by decide)
  obtain ⟨v51236, ev51236, lv51236, uv51236⟩ := g51234.rd ad42 (show 60 < 66 by decide) rf42_60
  rw [ev51236] at fp51234
  show jEv _ _ _ _ _ _ _ (_, [(2, 42), (0, a1), (0, a2)], [(0, v51235)], _, _, _)
  refine ev_iconst ?_
  refine g_isubG (fun v51237 ev51237 lv51237 uv51237 => ?_)
  exact ev_ret rfl (by decide) (by decide) ⟨⟨_, rfl, by omega, by omega, g51234, k51234⟩, Int.le_trans (Int.le_of_eq (ev51236)) (by omega)⟩
/-! 363 plainFears -/
set_option maxHeartbeats 4000000 in
theorem s363 {G : GH} {h : JH} (g : Gd G h) {a1 : Int} (la1 : 0 ≤ a1) (ua1 : a1 ≤ 19) {a2 : Int} (la2 : (-2147483648) ≤ a2) (ua2 : a2 ≤ 2147483647) {w0 : Int} (ew0 : h.2.2 42 60 = w0) (lw0 : 0 ≤ w0) (uw0 : w0 ≤ 999) : jOk 2 0 0 363 [(2, 42), (0, a1), (0, a2)] h (fun v h' => PI G [(42, 61), (78, 0)] h 0 (-2147483648) 2147483647 v h' ∧ h'.2.2 42 60 ≤ w0 + 1) := by
  refine ⟨by decide, by rw [ml363]; exact Nat.le_of_ble_eq_true rfl, ?_⟩
  rw [ml363, pp363]
  show jEv _ none _ c363_0 0 0 _ (c363_0, [(2, 42), (0, a1), (0, a2)], [], h, 0, 0)
  have k0 := Kp.rf [(42, 61), (78, 0)] h
  refine ev_aload_n rfl ?_
  refine ev_bipush ?_
  refine ev_call (jcall_v (A := [(0, 11)]) (S' := []) (r := 42) rfl (g.lt ad42) (g.tg ad42) (Nat.le_of_ble_eq_true rfl)) (jOk_le (by decide) (s356 g (by omega) (by omega) (ew0) (by omega) (by omega))) (by decide) (by decide) (fun w51244 h51244 q51244 => ?_)
  obtain ⟨q51244, fp51244⟩ := q51244
  obtain ⟨rfl, g51244, kk51244⟩ := q51244
  have k51244 := k0.tr kk51244 (by decide)
  obtain ⟨v51245, ev51245, lv51245, uv51245⟩ := g51244.rd ad42 (show 60 < 66 by decide) rf42_60
  rw [ev51245] at fp51244
  show jEv _ _ _ _ _ _ _ (_, [(2, 42), (0, a1), (0, a2)], [], _, _, _)
  refine ev_iload_n rfl ?_
  refine ev_iload_n rfl ?_
  refine g_ixorG (fun v51246 ev51246 lv51246 uv51246 => ?_)
  exact ev_ret rfl (by decide) (by decide) ⟨⟨_, rfl, by omega, by omega, g51244, k51244⟩, Int.le_trans (Int.le_of_eq (ev51245)) (by omega)⟩
/-! 364 fears -/
set_option maxHeartbeats 4000000 in
theorem s364 {G : GH} {h : JH} (g : Gd G h) {a1 : Int} (la1 : 0 ≤ a1) (ua1 : a1 ≤ 19) {a2 : Int} (la2 : (-2147483648) ≤ a2) (ua2 : a2 ≤ 2147483647) {w0 : Int} (ew0 : h.2.2 42 60 = w0) (lw0 : 0 ≤ w0) (uw0 : w0 ≤ 995) : jOk 5 0 0 364 [(2, 42), (0, a1), (0, a2)] h (fun v h' => PI G [(42, 61), (78, 0)] h 0 (-2147483648) 2147483647 v h' ∧ h'.2.2 42 60 ≤ w0 + 5) := by
  refine ⟨by decide, by rw [ml364]; exact Nat.le_of_ble_eq_true rfl, ?_⟩
  rw [ml364, pp364]
  show jEv _ none _ c364_0 0 0 _ (c364_0, [(2, 42), (0, a1), (0, a2), (9, 0)], [], h, 0, 0)
  have k0 := Kp.rf [(42, 61), (78, 0)] h
  refine ev_aload_n rfl ?_
  refine g_getp (r := 42) (c := 60) g ad42 (by decide) (by decide) rf42_29 ft12_29 ?_
  refine ev_iload_n rfl ?_
  refine g_iald g ad60 rt60 (by omega) (by omega) (fun v51289 ev51289 lv51289 uv51289 => ?_)
  refine ev_iconst ?_
  refine ev_icmpne f364_25 (fun c51290 => ?_) (fun c51290 => ?_)
  · refine ev_aload_n rfl ?_
    refine g_getp (r := 42) (c := 60) g ad42 (by decide) (by decide) rf42_29 ft12_29 ?_
    refine ev_iload_n rfl ?_
    refine g_ialdv (v := v51289) g ad60 (by omega) (by omega) (ev51289) ?_
    refine ev_iconst ?_
    refine ev_icmpne f364_57 (fun c51291 => ?_) (fun c51291 => ?_)
    · refine ev_aload_n rfl ?_
      refine ev_iload_n rfl ?_
      refine ev_iload_n rfl ?_
      refine ev_call (jcall_v (A := [(0, a2), (0, a1)]) (S' := []) (r := 42) rfl (g.lt ad42) (g.tg ad42) (Nat.le_of_ble_eq_true rfl)) (jOk_le (by decide) (s363 g (by omega) (by omega) (by omega) (by omega) (ew0) (by omega) (by omega))) (by decide) (by decide) (fun w51292 h51292 q51292 => ?_)
      obtain ⟨q51292, fp51292⟩ := q51292
      obtain ⟨v51293, rfl, lv51293, uv51293, g51292, kk51292⟩ := q51292
      have k51292 := k0.tr kk51292 (by decide)
      obtain ⟨v51294, ev51294, lv51294, uv51294⟩ := g51292.rd ad42 (show 60 < 66 by decide) rf42_60
      rw [ev51294] at fp51292
      show jEv _ _ _ _ _ _ _ (_, [(2, 42), (0, a1), (0, a2), (9, 0)], [(0, v51293)], _, _, _)
      exact ev_ret rfl (by decide) (by decide) ⟨⟨_, rfl, by omega, by omega, g51292, k51292⟩, Int.le_trans (Int.le_of_eq (ev51294)) (by omega)⟩
    · refine ev_aload_n rfl ?_
      refine ev_bipush ?_
      refine ev_call (jcall_v (A := [(0, 61)]) (S' := []) (r := 42) rfl (g.lt ad42) (g.tg ad42) (Nat.le_of_ble_eq_true rfl)) (jOk_le (by decide) (s356 g (by omega) (by omega) (ew0) (by omega) (by omega))) (by decide) (by decide) (fun w51295 h51295 q51295 => ?_)
      obtain ⟨q51295, fp51295⟩ := q51295
      obtain ⟨rfl, g51295, kk51295⟩ := q51295
      have k51295 := k0.tr kk51295 (by decide)
      obtain ⟨v51296, ev51296, lv51296, uv51296⟩ := g51295.rd ad42 (show 60 < 66 by decide) rf42_60
      rw [ev51296] at fp51295
      show jEv _ _ _ _ _ _ _ (_, [(2, 42), (0, a1), (0, a2), (9, 0)], [], _, _, _)
      refine ev_aload_n rfl ?_
      refine ev_iload_n rfl ?_
      refine ev_iload_n rfl ?_
      refine ev_call (jcall_v (A := [(0, a2), (0, a1)]) (S' := []) (r := 42) rfl (g51295.lt ad42) (g51295.tg ad42) (Nat.le_of_ble_eq_true rfl)) (jOk_le (by decide) (s363 g51295 (by omega) (by omega) (by omega) (by omega) (ev51296) (by omega) (by omega))) (by decide) (by decide) (fun w51297 h51297 q51297 => ?_)
      obtain ⟨q51297, fp51297⟩ := q51297
      obtain ⟨v51298, rfl, lv51298, uv51298, g51297, kk51297⟩ := q51297
      have k51297 := k51295.tr kk51297 (by decide)
      obtain ⟨v51299, ev51299, lv51299, uv51299⟩ := g51297.rd ad42 (show 60 < 66 by decide) rf42_60
      rw [ev51299] at fp51297
      show jEv _ _ _ _ _ _ _ (_, [(2, 42), (0, a1), (0, a2), (9, 0)], [(0, v51298)], _, _, _)
      refine ev_istore_n (L' := [(2, 42), (0, a1), (0, a2), (0, v51298)]) (Nat.le_of_ble_eq_true rfl) rfl ?_
      refine ev_iload_n rfl ?_
      refine ev_aload_n rfl ?_
      refine ev_iload_n rfl ?_
      refine ev_iconst ?_
      refine ev_call (jcall_v (A := [(0, 1), (0, a1)]) (S' := [(0, v51298)]) (r := 42) rfl (g51297.lt ad42) (g51297.tg ad42) (Nat.le_of_ble_eq_true rfl)) (jOk_le (by decide) (s359 g51297 (by omega) (by omega) (by omega) (by omega) (ev51299) (by omega) (by omega))) (by decide) (by decide) (fun w51300 h51300 q51300 => ?_)
      obtain ⟨q51300, fp51300⟩ := q51300
      obtain ⟨v51301, rfl, lv51301, uv51301, g51300, kk51300⟩ := q51300
      have k51300 := k51297.tr kk51300 (by decide)
      obtain ⟨v51302, ev51302, lv51302, uv51302⟩ := g51300.rd ad42 (show 60 < 66 by decide) rf42_60
      rw [ev51302] at fp51300
      show jEv _ _ _ _ _ _ _ (_, [(2, 42), (0, a1), (0, a2), (0, v51298)], [(0, v51301), (0, v51298)], _, _, _)
      refine g_iaddG (fun v51303 ev51303 lv51303 uv51303 => ?_)
      exact ev_ret rfl (by decide) (by decide) ⟨⟨_, rfl, by omega, by omega, g51300, k51300⟩, Int.le_trans (Int.le_of_eq (ev51302)) (by omega)⟩
  · refine ev_aload_n rfl ?_
    refine ev_bipush ?_
    refine ev_call (jcall_v (A := [(0, 30)]) (S' := []) (r := 42) rfl (g.lt ad42) (g.tg ad42) (Nat.le_of_ble_eq_true rfl)) (jOk_le (by decide) (s356 g (by omega) (by omega) (ew0) (by omega) (by omega))) (by decide) (by decide) (fun w51304 h51304 q51304 => ?_)
    obtain ⟨q51304, fp51304⟩ := q51304
    obtain ⟨rfl, g51304, kk51304⟩ := q51304
    have k51304 := k0.tr kk51304 (by decide)
    obtain ⟨v51305, ev51305, lv51305, uv51305⟩ := g51304.rd ad42 (show 60 < 66 by decide) rf42_60
    rw [ev51305] at fp51304
    show jEv _ _ _ _ _ _ _ (_, [(2, 42), (0, a1), (0, a2), (9, 0)], [], _, _, _)
    refine ev_aload_n rfl ?_
    refine ev_iload_n rfl ?_
    refine ev_iload_n rfl ?_
    refine ev_call (jcall_v (A := [(0, a2), (0, a1)]) (S' := []) (r := 42) rfl (g51304.lt ad42) (g51304.tg ad42) (Nat.le_of_ble_eq_true rfl)) (jOk_le (by decide) (s363 g51304 (by omega) (by omega) (by omega) (by omega) (ev51305) (by omega) (by omega))) (by decide) (by decide) (fun w51306 h51306 q51306 => ?_)
    obtain ⟨q51306, fp51306⟩ := q51306
    obtain ⟨v51307, rfl, lv51307, uv51307, g51306, kk51306⟩ := q51306
    have k51306 := k51304.tr kk51306 (by decide)
    obtain ⟨v51308, ev51308, lv51308, uv51308⟩ := g51306.rd ad42 (show 60 < 66 by decide) rf42_60
    rw [ev51308] at fp51306
    show jEv _ _ _ _ _ _ _ (_, [(2, 42), (0, a1), (0, a2), (9, 0)], [(0, v51307)], _, _, _)
    refine ev_iconst ?_
    refine g_imulG (fun v51309 ev51309 lv51309 uv51309 => ?_)
    exact ev_ret rfl (by decide) (by decide) ⟨⟨_, rfl, by omega, by omega, g51306, k51306⟩, Int.le_trans (Int.le_of_eq (ev51308)) (by omega)⟩
/-! 362 feels -/
set_option maxHeartbeats 4000000 in
theorem s362 {G : GH} {h : JH} (g : Gd G h) {a1 : Int} (la1 : 0 ≤ a1) (ua1 : a1 ≤ 19) {a2 : Int} (la2 : (-2147483648) ≤ a2) (ua2 : a2 ≤ 2147483647) {w0 : Int} (ew0 : h.2.2 42 60 = w0) (lw0 : 0 ≤ w0) (uw0 : w0 ≤ 989) : jOk 7 0 0 362 [(2, 42), (0, a1), (0, a2)] h (fun v h' => PI G [(42, 61), (78, 0)] h 0 (-2147483648) 2147483647 v h' ∧ h'.2.2 42 60 ≤ w0 + 11) := by
  refine ⟨by decide, by rw [ml362]; exact Nat.le_of_ble_eq_true rfl, ?_⟩
  rw [ml362, pp362]
  show jEv _ none _ c362_0 0 0 _ (c362_0, [(2, 42), (0, a1), (0, a2), (9, 0)], [], h, 0, 0)
  have k0 := Kp.rf [(42, 61), (78, 0)] h
  refine ev_aload_n rfl ?_
  refine g_getp (r := 42) (c := 60) g ad42 (by decide) (by decide) rf42_29 ft12_29 ?_
  refine ev_iload_n rfl ?_
  refine g_iald g ad60 rt60 (by omega) (by omega) (fun v51346 ev51346 lv51346 uv51346 => ?_)
  refine ev_iconst ?_
  refine ev_icmpne f362_32 (fun c51347 => ?_) (fun c51347 => ?_)
  · refine ev_aload_n rfl ?_
    refine g_getp (r := 42) (c := 60) g ad42 (by decide) (by decide) rf42_29 ft12_29 ?_
    refine ev_iload_n rfl ?_
    refine g_ialdv (v := v51346) g ad60 (by omega) (by omega) (ev51346) ?_
    refine ev_iconst ?_
    refine ev_icmpne f362_51 (fun c51348 => ?_) (fun c51348 => ?_)
    · refine ev_aload_n rfl ?_
      refine ev_iload_n rfl ?_
      refine ev_iload_n rfl ?_
      refine ev_call (jcall_v (A := [(0, a2), (0, a1)]) (S' := []) (r := 42) rfl (g.lt ad42) (g.tg ad42) (Nat.le_of_ble_eq_true rfl)) (jOk_le (by decide) (s360 g (by omega) (by omega) (by omega) (by omega) (ew0) (by omega) (by omega))) (by decide) (by decide) (fun w51349 h51349 q51349 => ?_)
      obtain ⟨q51349, fp51349⟩ := q51349
      obtain ⟨v51350, rfl, lv51350, uv51350, g51349, kk51349⟩ := q51349
      have k51349 := k0.tr kk51349 (by decide)
      obtain ⟨v51351, ev51351, lv51351, uv51351⟩ := g51349.rd ad42 (show 60 < 66 by decide) rf42_60
      rw [ev51351] at fp51349
      show jEv _ _ _ _ _ _ _ (_, [(2, 42), (0, a1), (0, a2), (9, 0)], [(0, v51350)], _, _, _)
      exact ev_ret rfl (by decide) (by decide) ⟨⟨_, rfl, by omega, by omega, g51349, k51349⟩, Int.le_trans (Int.le_of_eq (ev51351)) (by omega)⟩
    · refine ev_aload_n rfl ?_
      refine ev_iload_n rfl ?_
      refine ev_iload_n rfl ?_
      refine ev_call (jcall_v (A := [(0, a2), (0, a1)]) (S' := []) (r := 42) rfl (g.lt ad42) (g.tg ad42) (Nat.le_of_ble_eq_true rfl)) (jOk_le (by decide) (s361 g (by omega) (by omega) (by omega) (by omega) (ew0) (by omega) (by omega))) (by decide) (by decide) (fun w51352 h51352 q51352 => ?_)
      obtain ⟨q51352, fp51352⟩ := q51352
      obtain ⟨v51353, rfl, lv51353, uv51353, g51352, kk51352⟩ := q51352
      have k51352 := k0.tr kk51352 (by decide)
      obtain ⟨v51354, ev51354, lv51354, uv51354⟩ := g51352.rd ad42 (show 60 < 66 by decide) rf42_60
      rw [ev51354] at fp51352
      show jEv _ _ _ _ _ _ _ (_, [(2, 42), (0, a1), (0, a2), (9, 0)], [(0, v51353)], _, _, _)
      refine ev_goto f362_57 ?_
      exact ev_ret rfl (by decide) (by decide) ⟨⟨_, rfl, by omega, by omega, g51352, k51352⟩, Int.le_trans (Int.le_of_eq (ev51354)) (by omega)⟩
  · refine ev_aload_n rfl ?_
    refine ev_bipush ?_
    refine ev_call (jcall_v (A := [(0, 40)]) (S' := []) (r := 42) rfl (g.lt ad42) (g.tg ad42) (Nat.le_of_ble_eq_true rfl)) (jOk_le (by decide) (s356 g (by omega) (by omega) (ew0) (by omega) (by omega))) (by decide) (by decide) (fun w51355 h51355 q51355 => ?_)
    obtain ⟨q51355, fp51355⟩ := q51355
    obtain ⟨rfl, g51355, kk51355⟩ := q51355
    have k51355 := k0.tr kk51355 (by decide)
    obtain ⟨v51356, ev51356, lv51356, uv51356⟩ := g51355.rd ad42 (show 60 < 66 by decide) rf42_60
    rw [ev51356] at fp51355
    show jEv _ _ _ _ _ _ _ (_, [(2, 42), (0, a1), (0, a2), (9, 0)], [], _, _, _)
    refine ev_aload_n rfl ?_
    refine ev_iload_n rfl ?_
    refine ev_iload_n rfl ?_
    refine ev_call (jcall_v (A := [(0, a2), (0, a1)]) (S' := []) (r := 42) rfl (g51355.lt ad42) (g51355.tg ad42) (Nat.le_of_ble_eq_true rfl)) (jOk_le (by decide) (s361 g51355 (by omega) (by omega) (by omega) (by omega) (ev51356) (by omega) (by omega))) (by decide) (by decide) (fun w51357 h51357 q51357 => ?_)
    obtain ⟨q51357, fp51357⟩ := q51357
    obtain ⟨v51358, rfl, lv51358, uv51358, g51357, kk51357⟩ := q51357
    have k51357 := k51355.tr kk51357 (by decide)
    obtain ⟨v51359, ev51359, lv51359, uv51359⟩ := g51357.rd ad42 (show 60 < 66 by decide) rf42_60
    rw [ev51359] at fp51357
    show jEv _ _ _ _ _ _ _ (_, [(2, 42), (0, a1), (0, a2), (9, 0)], [(0, v51358)], _, _, _)
    refine ev_istore_n (L' := [(2, 42), (0, a1), (0, a2), (0, v51358)]) (Nat.le_of_ble_eq_true rfl) rfl ?_
    refine ev_iload_n rfl ?_
    refine ev_aload_n rfl ?_
    refine ev_iload_n rfl ?_
    refine ev_iconst ?_
    refine ev_call (jcall_v (A := [(0, 2), (0, a1)]) (S' := [(0, v51358)]) (r := 42) rfl (g51357.lt ad42) (g51357.tg ad42) (Nat.le_of_ble_eq_true rfl)) (jOk_le (by decide) (s364 g51357 (by omega) (by omega) (by omega) (by omega) (ev51359) (by omega) (by omega))) (by decide) (by decide) (fun w51360 h51360 q51360 => ?_)
    obtain ⟨q51360, fp51360⟩ := q51360
    obtain ⟨v51361, rfl, lv51361, uv51361, g51360, kk51360⟩ := q51360
    have k51360 := k51357.tr kk51360 (by decide)
    obtain ⟨v51362, ev51362, lv51362, uv51362⟩ := g51360.rd ad42 (show 60 < 66 by decide) rf42_60
    rw [ev51362] at fp51360
    show jEv _ _ _ _ _ _ _ (_, [(2, 42), (0, a1), (0, a2), (0, v51358)], [(0, v51361), (0, v51358)], _, _, _)
    refine g_iaddG (fun v51363 ev51363 lv51363 uv51363 => ?_)
    exact ev_ret rfl (by decide) (by decide) ⟨⟨_, rfl, by omega, by omega, g51360, k51360⟩, Int.le_trans (Int.le_of_eq (ev51362)) (by omega)⟩
/-! 365 plainTells -/
set_option maxHeartbeats 4000000 in
theorem s365 {G : GH} {h : JH} (g : Gd G h) {a1 : Int} (la1 : 0 ≤ a1) (ua1 : a1 ≤ 19) {a2 : Int} (la2 : (-2147483648) ≤ a2) (ua2 : a2 ≤ 2147483647) {w0 : Int} (ew0 : h.2.2 42 60 = w0) (lw0 : 0 ≤ w0) (uw0 : w0 ≤ 983) : jOk 8 0 0 365 [(2, 42), (0, a1), (0, a2)] h (fun v h' => PI G [(42, 61), (78, 0)] h 0 (-2147483648) 2147483647 v h' ∧ h'.2.2 42 60 ≤ w0 + 17) := by
  refine ⟨by decide, by rw [ml365]; exact Nat.le_of_ble_eq_true rfl, ?_⟩
  rw [ml365, pp365]
  show jEv _ none _ c365_0 0 0 _ (c365_0, [(2, 42), (0, a1), (0, a2), (9, 0)], [], h, 0, 0)
  have k0 := Kp.rf [(42, 61), (78, 0)] h
  refine ev_aload_n rfl ?_
  refine ev_iconst ?_
  refine ev_call (jcall_v (A := [(0, 2)]) (S' := []) (r := 42) rfl (g.lt ad42) (g.tg ad42) (Nat.le_of_ble_eq_true rfl)) (jOk_le (by decide) (s356 g (by omega) (by omega) (ew0) (by omega) (by omega))) (by decide) (by decide) (fun w51382 h51382 q51382 => ?_)
  obtain ⟨q51382, fp51382⟩ := q51382
  obtain ⟨rfl, g51382, kk51382⟩ := q51382
  have k51382 := k0.tr kk51382 (by decide)
  obtain ⟨v51383, ev51383, lv51383, uv51383⟩ := g51382.rd ad42 (show 60 < 66 by decide) rf42_60
  rw [ev51383] at fp51382
  show jEv _ _ _ _ _ _ _ (_, [(2, 42), (0, a1), (0, a2), (9, 0)], [], _, _, _)
  refine ev_aload_n rfl ?_
  refine ev_iload_n rfl ?_
  refine ev_iload_n rfl ?_
  refine ev_call (jcall_v (A := [(0, a2), (0, a1)]) (S' := []) (r := 42) rfl (g51382.lt ad42) (g51382.tg ad42) (Nat.le_of_ble_eq_true rfl)) (jOk_le (by decide) (s362 g51382 (by omega) (by omega) (by omega) (by omega) (ev51383) (by omega) (by omega))) (by decide) (by decide) (fun w51384 h51384 q51384 => ?_)
  obtain ⟨q51384, fp51384⟩ := q51384
  obtain ⟨v51385, rfl, lv51385, uv51385, g51384, kk51384⟩ := q51384
  have k51384 := k51382.tr kk51384 (by decide)
  obtain ⟨v51386, ev51386, lv51386, uv51386⟩ := g51384.rd ad42 (show 60 < 66 by decide) rf42_60
  rw [ev51386] at fp51384
  show jEv _ _ _ _ _ _ _ (_, [(2, 42), (0, a1), (0, a2), (9, 0)], [(0, v51385)], _, _, _)
  refine ev_istore_n (L' := [(2, 42), (0, a1), (0, a2), (0, v51385)]) (Nat.le_of_ble_eq_true rfl) rfl ?_
  refine ev_iload_n rfl ?_
  refine ev_aload_n rfl ?_
  refine ev_iload_n rfl ?_
  refine ev_iconst ?_
  refine ev_call (jcall_v (A := [(0, 1), (0, a1)]) (S' := [(0, v51385)]) (r := 42) rfl (g51384.lt ad42) (g51384.tg ad42) (Nat.le_of_ble_eq_true rfl)) (jOk_le (by decide) (s364 g51384 (by omega) (by omega) (by omega) (by omega) (ev51386) (by omega) (by omega))) (by decide) (by decide) (fun w51387 h51387 q51387 => ?_)
  obtain ⟨q51387, fp51387⟩ := q51387
  obtain ⟨v51388, rfl, lv51388, uv51388, g51387, kk51387⟩ := q51387
  have k51387 := k51384.tr kk51387 (by decide)
  obtain ⟨v51389, ev51389, lv51389, uv51389⟩ := g51387.rd ad42 (show 60 < 66 by decide) rf42_60
  rw [ev51389] at fp51387
  show jEv _ _ _ _ _ _ _ (_, [(2, 42), (0, a1), (0, a2), (0, v51385)], [(0, v51388), (0, v51385)], _, _, _)
  refine g_isubG (fun v51390 ev51390 lv51390 uv51390 => ?_)
  exact ev_ret rfl (by decide) (by decide) ⟨⟨_, rfl, by omega, by omega, g51387, k51387⟩, Int.le_trans (Int.le_of_eq (ev51389)) (by omega)⟩
/-! 366 tells -/
set_option maxHeartbeats 4000000 in
theorem s366 {G : GH} {h : JH} (g : Gd G h) {a1 : Int} (la1 : 0 ≤ a1) (ua1 : a1 ≤ 19) {a2 : Int} (la2 : (-2147483648) ≤ a2) (ua2 : a2 ≤ 2147483647) {w0 : Int} (ew0 : h.2.2 42 60 = w0) (lw0 : 0 ≤ w0) (uw0 : w0 ≤ 982) : jOk 9 0 0 366 [(2, 42), (0, a1), (0, a2)] h (fun v h' => PI G [(42, 61), (78, 0)] h 0 (-2147483648) 2147483647 v h' ∧ h'.2.2 42 60 ≤ w0 + 18) := by
  refine ⟨by decide, by rw [ml366]; exact Nat.le_of_ble_eq_true rfl, ?_⟩
  rw [ml366, pp366]
  show jEv _ none _ c366_0 0 0 _ (c366_0, [(2, 42), (0, a1), (0, a2)], [], h, 0, 0)
  have k0 := Kp.rf [(42, 61), (78, 0)] h
  refine ev_aload_n rfl ?_
  refine g_getp (r := 42) (c := 60) g ad42 (by decide) (by decide) rf42_29 ft12_29 ?_
  refine ev_iload_n rfl ?_
  refine g_iald g ad60 rt60 (by omega) (by omega) (fun v51413 ev51413 lv51413 uv51413 => ?_)
  refine ev_iconst ?_
  refine ev_icmpne f366_25 (fun c51414 => ?_) (fun c51414 => ?_)
  · refine ev_aload_n rfl ?_
    refine ev_iload_n rfl ?_
    refine ev_iload_n rfl ?_
    refine ev_call (jcall_v (A := [(0, a2), (0, a1)]) (S' := []) (r := 42) rfl (g.lt ad42) (g.tg ad42) (Nat.le_of_ble_eq_true rfl)) (jOk_le (by decide) (s365 g (by omega) (by omega) (by omega) (by omega) (ew0) (by omega) (by omega))) (by decide) (by decide) (fun w51415 h51415 q51415 => ?_)
    obtain ⟨q51415, fp51415⟩ := q51415
    obtain ⟨v51416, rfl, lv51416, uv51416, g51415, kk51415⟩ := q51415
    have k51415 := k0.tr kk51415 (by decide)
    obtain ⟨v51417, ev51417, lv51417, uv51417⟩ := g51415.rd ad42 (show 60 < 66 by decide) rf42_60
    rw [ev51417] at fp51415
    show jEv _ _ _ _ _ _ _ (_, [(2, 42), (0, a1), (0, a2)], [(0, v51416)], _, _, _)
    exact ev_ret rfl (by decide) (by decide) ⟨⟨_, rfl, by omega, by omega, g51415, k51415⟩, Int.le_trans (Int.le_of_eq (ev51417)) (by omega)⟩
  · refine ev_aload_n rfl ?_
    refine ev_bipush ?_
    refine ev_call (jcall_v (A := [(0, 41)]) (S' := []) (r := 42) rfl (g.lt ad42) (g.tg ad42) (Nat.le_of_ble_eq_true rfl)) (jOk_le (by decide) (s356 g (by omega) (by omega) (ew0) (by omega) (by omega))) (by decide) (by decide) (fun w51418 h51418 q51418 => ?_)
    obtain ⟨q51418, fp51418⟩ := q51418
    obtain ⟨rfl, g51418, kk51418⟩ := q51418
    have k51418 := k0.tr kk51418 (by decide)
    obtain ⟨v51419, ev51419, lv51419, uv51419⟩ := g51418.rd ad42 (show 60 < 66 by decide) rf42_60
    rw [ev51419] at fp51418
    show jEv _ _ _ _ _ _ _ (_, [(2, 42), (0, a1), (0, a2)], [], _, _, _)
    refine ev_aload_n rfl ?_
    refine ev_iload_n rfl ?_
    refine ev_iload_n rfl ?_
    refine ev_iconst ?_
    refine g_iaddG (fun v51420 ev51420 lv51420 uv51420 => ?_)
    refine ev_call (jcall_v (A := [(0, v51420), (0, a1)]) (S' := []) (r := 42) rfl (g51418.lt ad42) (g51418.tg ad42) (Nat.le_of_ble_eq_true rfl)) (jOk_le (by decide) (s365 g51418 (by omega) (by omega) (by omega) (by omega) (ev51419) (by omega) (by omega))) (by decide) (by decide) (fun w51421 h51421 q51421 => ?_)
    obtain ⟨q51421, fp51421⟩ := q51421
    obtain ⟨v51422, rfl, lv51422, uv51422, g51421, kk51421⟩ := q51421
    have k51421 := k51418.tr kk51421 (by decide)
    obtain ⟨v51423, ev51423, lv51423, uv51423⟩ := g51421.rd ad42 (show 60 < 66 by decide) rf42_60
    rw [ev51423] at fp51421
    show jEv _ _ _ _ _ _ _ (_, [(2, 42), (0, a1), (0, a2)], [(0, v51422)], _, _, _)
    exact ev_ret rfl (by decide) (by decide) ⟨⟨_, rfl, by omega, by omega, g51421, k51421⟩, Int.le_trans (Int.le_of_eq (ev51423)) (by omega)⟩
