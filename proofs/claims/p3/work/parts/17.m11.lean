/-! 345 holds -/
set_option maxHeartbeats 4000000 in
theorem s345_l {G : GH} {h : JH} {a1 : Int} (la1 : (-2147483648) ≤ a1) (ua1 : a1 ≤ 2147483647) {a2 : Int} (la2 : (-2147483648) ≤ a2) (ua2 : a2 ≤ 2147483647) : ∀ N : Nat, (∀ (h1 : JH) (x3 x4 : Int) (j5 : AV), Gd G h1 → Kp [] h h1 → 0 ≤ a1 → a1 ≤ 99 → 0 ≤ a2 → a2 ≤ 2 → (-2147483648) ≤ x3 → x3 ≤ 2147483647 → 0 ≤ x4 → x4 ≤ 64 → ((-34) * x4 + 2193) < N → jEv (jOk 3) none (fun _ => 0) c345_0 0 0 (PI G [] h 0 (-2147483648) 2147483647) (c345_43, [(2, 42), (0, a1), (0, a2), (0, x3), (0, x4), j5], [], h1, 0, 0)) ∧ (∀ (h1 : JH) (x3 x4 x5 : Int), Gd G h1 → Kp [] h h1 → 0 ≤ a1 → a1 ≤ 99 → 0 ≤ a2 → a2 ≤ 2 → (-2147483648) ≤ x3 → x3 ≤ 2147483647 → 0 ≤ x4 → x4 ≤ 63 → 0 ≤ x5 → x5 ≤ 16 → ((-34) * x4 + (-x5) + 2192) < N → jEv (jOk 3) none (fun _ => 0) c345_0 0 0 (PI G [] h 0 (-2147483648) 2147483647) (c345_59, [(2, 42), (0, a1), (0, a2), (0, x3), (0, x4), (0, x5)], [], h1, 0, 0)) := by
  intro N
  induction N with
  | zero => exact ⟨fun h1 x3 x4 j5 g1 k1 b0 b1 b2 b3 b4 b5 b6 b7 hm => absurd hm (by omega), fun h1 x3 x4 x5 g1 k1 b0 b1 b2 b3 b4 b5 b6 b7 b8 b9 hm => absurd hm (by omega)⟩
  | succ N ih =>
    refine ⟨?_, ?_⟩
    · intro h1 x3 x4 j5 g1 k1 b0 b1 b2 b3 b4 b5 b6 b7 hm
      refine ev_iload rfl ?_
      refine ev_iconst ?_
      refine ev_iconst ?_
      refine ev_aload_n rfl ?_
      obtain ⟨v48960, ev48960, lv48960, uv48960⟩ := g1.rd ad42 (show 47 < 66 by decide) rf42_47
      refine g_getv (r := 42) (v := v48960) g1 ad42 (by decide) ft12_47 ev48960 ?_
      refine ev_imul (r := (2 * v48960)) (by unfold w32; omega) ?_
      refine g_ishlB (a' := 1) (a := 1) (b := 6) (hi := 64) (by omega) (by omega) (by omega) (by omega) (by decide) (by decide) (fun v48961 ev48961 lv48961 uv48961 => ?_)
      refine ev_icmpge f345_124 (fun c48962 => ?_) (fun c48962 => ?_)
      · refine ev_iload_n rfl ?_
        refine ev_ifne f345_132 (fun c48963 => ?_) (fun c48963 => ?_)
        · refine ev_bipush ?_
          exact ev_ret rfl (by decide) (by decide) ⟨_, rfl, by omega, by omega, g1, k1⟩
        · refine ev_iload_n rfl ?_
          refine ev_goto f345_134 ?_
          exact ev_ret rfl (by decide) (by decide) ⟨_, rfl, by omega, by omega, g1, k1⟩
      · refine ev_iconst ?_
        refine ev_istore (L' := [(2, 42), (0, a1), (0, a2), (0, x3), (0, x4), (0, 0)]) (Nat.le_of_ble_eq_true rfl) rfl ?_
        exact ih.2 _ _ _ _ g1 k1 (by omega) (by omega) (by omega) (by omega) (by omega) (by omega) (by omega) (by omega) (by omega) (by omega) (by omega)
    · intro h1 x3 x4 x5 g1 k1 b0 b1 b2 b3 b4 b5 b6 b7 b8 b9 hm
      refine ev_iload rfl ?_
      refine ev_iconst ?_
      refine ev_aload_n rfl ?_
      obtain ⟨v48964, ev48964, lv48964, uv48964⟩ := g1.rd ad42 (show 51 < 66 by decide) rf42_51
      refine g_getv (r := 42) (v := v48964) g1 ad42 (by decide) ft12_51 ev48964 ?_
      refine g_ishlB (a' := 1) (a := 1) (b := 4) (hi := 16) (by omega) (by omega) (by omega) (by omega) (by decide) (by decide) (fun v48965 ev48965 lv48965 uv48965 => ?_)
      refine ev_icmpge f345_118 (fun c48966 => ?_) (fun c48966 => ?_)
      · refine ev_iinc (w := (x4 + 1)) (L' := [(2, 42), (0, a1), (0, a2), (0, x3), (0, (x4 + 1)), (0, x5)]) rfl (by unfold w32; omega) rfl ?_
        refine ev_goto f345_43 ?_
        exact ih.1 _ _ _ _ g1 k1 (by omega) (by omega) (by omega) (by omega) (by omega) (by omega) (by omega) (by omega) (by omega)
      · refine ev_aload_n rfl ?_
        refine ev_iload rfl ?_
        refine ev_iload rfl ?_
        refine ev_iload_n rfl ?_
        refine ev_call (jcall_v (A := [(0, a1), (0, x5), (0, x4)]) (S' := []) (r := 42) rfl (g1.lt ad42) (g1.tg ad42) (Nat.le_of_ble_eq_true rfl)) (jOk_le (by decide) (s343 g1 (by omega) (by omega) (by omega) (by omega) (by omega) (by omega))) (by decide) (by decide) (fun w48967 h48967 q48967 => ?_)
        obtain ⟨v48968, rfl, lv48968, uv48968, g48967, kk48967⟩ := q48967
        have k48967 := k1.tr kk48967 (by decide)
        show jEv _ _ _ _ _ _ _ (_, [(2, 42), (0, a1), (0, a2), (0, x3), (0, x4), (0, x5)], [(0, v48968)], _, _, _)
        refine ev_ifne f345_85 (fun c48969 => ?_) (fun c48969 => ?_)
        · refine ev_iload_n rfl ?_
          refine ev_ifle f345_109 (fun c48970 => ?_) (fun c48970 => ?_)
          · refine g_iincG (f := fun w => [(2, 42), (0, a1), (0, a2), (0, w), (0, x4), (0, x5)]) rfl (fun _ => rfl) (fun v48971 ev48971 lv48971 uv48971 => ?_)
            refine ev_iinc (w := (x5 + 1)) (L' := [(2, 42), (0, a1), (0, a2), (0, v48971), (0, x4), (0, (x5 + 1))]) rfl (by unfold w32; omega) rfl ?_
            refine ev_goto f345_59 ?_
            exact ih.2 _ _ _ _ g48967 k48967 (by omega) (by omega) (by omega) (by omega) (by omega) (by omega) (by omega) (by omega) (by omega) (by omega) (by omega)
          · refine ev_iload_n rfl ?_
            refine ev_iconst ?_
            refine ev_icmpne f345_106 (fun c48972 => ?_) (fun c48972 => ?_)
            · refine ev_iload rfl ?_
              exact ev_ret rfl (by decide) (by decide) ⟨_, rfl, by omega, by omega, g48967, k48967⟩
            · refine ev_iload rfl ?_
              refine ev_aload_n rfl ?_
              obtain ⟨v48973, ev48973, lv48973, uv48973⟩ := g48967.rd ad42 (show 47 < 66 by decide) rf42_47
              refine g_getv (r := 42) (v := v48973) g48967 ad42 (by decide) ft12_47 ev48973 ?_
              refine ev_call (jcall_s (A := [(0, v48973), (0, x4)]) (S' := []) (by decide) rfl (Nat.le_of_ble_eq_true rfl)) (jOk_le (by decide) (s344 g48967 (by omega) (by omega) (by omega) (by omega))) (by decide) (by decide) (fun w48974 h48974 q48974 => ?_)
              obtain ⟨v48975, rfl, lv48975, uv48975, g48974, kk48974⟩ := q48974
              have k48974 := k48967.tr kk48974 (by decide)
              show jEv _ _ _ _ _ _ _ (_, [(2, 42), (0, a1), (0, a2), (0, x3), (0, x4), (0, x5)], [(0, v48975)], _, _, _)
              refine ev_goto f345_108 ?_
              exact ev_ret rfl (by decide) (by decide) ⟨_, rfl, by omega, by omega, g48974, k48974⟩
        · refine ev_goto f345_112 ?_
          refine ev_iinc (w := (x5 + 1)) (L' := [(2, 42), (0, a1), (0, a2), (0, x3), (0, x4), (0, (x5 + 1))]) rfl (by unfold w32; omega) rfl ?_
          refine ev_goto f345_59 ?_
          exact ih.2 _ _ _ _ g48967 k48967 (by omega) (by omega) (by omega) (by omega) (by omega) (by omega) (by omega) (by omega) (by omega) (by omega) (by omega)
set_option maxHeartbeats 4000000 in
theorem s345 {G : GH} {h : JH} (g : Gd G h) {a1 : Int} (la1 : (-2147483648) ≤ a1) (ua1 : a1 ≤ 2147483647) {a2 : Int} (la2 : (-2147483648) ≤ a2) (ua2 : a2 ≤ 2147483647) : jOk 4 0 0 345 [(2, 42), (0, a1), (0, a2)] h (PI G [] h 0 (-2147483648) 2147483647) := by
  refine ⟨by decide, by rw [ml345]; exact Nat.le_of_ble_eq_true rfl, ?_⟩
  rw [ml345, pp345]
  show jEv _ none _ c345_0 0 0 _ (c345_0, [(2, 42), (0, a1), (0, a2), (9, 0), (9, 0), (9, 0)], [], h, 0, 0)
  have k0 := Kp.rf [] h
  refine ev_iload_n rfl ?_
  refine ev_iconst ?_
  refine ev_bipush ?_
  refine ev_in (d := 2) (a := 0) (b := 0) (cd' := c242_0) (m := 3) (L0 := [(0, a1), (0, 0), (0, 99)]) (jcall_s (A := [(0, 99), (0, 0), (0, a1)]) (S' := []) (by decide) rfl (Nat.le_of_ble_eq_true rfl)) (by decide) ml242 pp242 (Nat.le_of_ble_eq_true rfl) rfl (by decide) (by decide) ?_
  refine ev_iload_n rfl ?_
  refine ev_iload_n rfl ?_
  refine ev_icmplt f242_14 (fun c48976 => ?_) (fun c48976 => ?_)
  · refine ev_iconst ?_
    refine ev_ret rfl (by decide) (by decide) ?_
    show jEv _ _ _ _ _ _ _ (_, [(2, 42), (0, a1), (0, a2), (9, 0), (9, 0), (9, 0)], [(0, 0)], _, _, _)
    refine ev_ifeq f345_19 (fun c48977 => ?_) (fun c48977 => absurd c48977 (by omega))
    refine ev_iconst ?_
    exact ev_ret rfl (by decide) (by decide) ⟨_, rfl, by omega, by omega, g, k0⟩
  · refine ev_iload_n rfl ?_
    refine ev_iload_n rfl ?_
    refine ev_icmpgt f242_14 (fun c48978 => ?_) (fun c48978 => ?_)
    · refine ev_iconst ?_
      refine ev_ret rfl (by decide) (by decide) ?_
      show jEv _ _ _ _ _ _ _ (_, [(2, 42), (0, a1), (0, a2), (9, 0), (9, 0), (9, 0)], [(0, 0)], _, _, _)
      refine ev_ifeq f345_19 (fun c48979 => ?_) (fun c48979 => absurd c48979 (by omega))
      refine ev_iconst ?_
      exact ev_ret rfl (by decide) (by decide) ⟨_, rfl, by omega, by omega, g, k0⟩
    · refine ev_iconst ?_
      refine ev_goto f242_15 ?_
      refine ev_ret rfl (by decide) (by decide) ?_
      show jEv _ _ _ _ _ _ _ (_, [(2, 42), (0, a1), (0, a2), (9, 0), (9, 0), (9, 0)], [(0, 1)], _, _, _)
      refine ev_ifeq f345_19 (fun c48980 => absurd c48980 (by omega)) (fun c48980 => ?_)
      refine ev_iload_n rfl ?_
      refine ev_iconst ?_
      refine ev_iconst ?_
      refine ev_in (d := 2) (a := 0) (b := 0) (cd' := c242_0) (m := 3) (L0 := [(0, a2), (0, 0), (0, 2)]) (jcall_s (A := [(0, 2), (0, 0), (0, a2)]) (S' := []) (by decide) rfl (Nat.le_of_ble_eq_true rfl)) (by decide) ml242 pp242 (Nat.le_of_ble_eq_true rfl) rfl (by decide) (by decide) ?_
      refine ev_iload_n rfl ?_
      refine ev_iload_n rfl ?_
      refine ev_icmplt f242_14 (fun c48981 => ?_) (fun c48981 => ?_)
      · refine ev_iconst ?_
        refine ev_ret rfl (by decide) (by decide) ?_
        show jEv _ _ _ _ _ _ _ (_, [(2, 42), (0, a1), (0, a2), (9, 0), (9, 0), (9, 0)], [(0, 0)], _, _, _)
        refine ev_ifne f345_21 (fun c48982 => absurd c48982 (by omega)) (fun c48982 => ?_)
        refine ev_iconst ?_
        exact ev_ret rfl (by decide) (by decide) ⟨_, rfl, by omega, by omega, g, k0⟩
      · refine ev_iload_n rfl ?_
        refine ev_iload_n rfl ?_
        refine ev_icmpgt f242_14 (fun c48983 => ?_) (fun c48983 => ?_)
        · refine ev_iconst ?_
          refine ev_ret rfl (by decide) (by decide) ?_
          show jEv _ _ _ _ _ _ _ (_, [(2, 42), (0, a1), (0, a2), (9, 0), (9, 0), (9, 0)], [(0, 0)], _, _, _)
          refine ev_ifne f345_21 (fun c48984 => absurd c48984 (by omega)) (fun c48984 => ?_)
          refine ev_iconst ?_
          exact ev_ret rfl (by decide) (by decide) ⟨_, rfl, by omega, by omega, g, k0⟩
        · refine ev_iconst ?_
          refine ev_goto f242_15 ?_
          refine ev_ret rfl (by decide) (by decide) ?_
          show jEv _ _ _ _ _ _ _ (_, [(2, 42), (0, a1), (0, a2), (9, 0), (9, 0), (9, 0)], [(0, 1)], _, _, _)
          refine ev_ifne f345_21 (fun c48985 => ?_) (fun c48985 => absurd c48985 (by omega))
          refine ev_aload_n rfl ?_
          obtain ⟨v48986, ev48986, lv48986, uv48986⟩ := g.rd ad42 (show 47 < 66 by decide) rf42_47
          refine g_getv (r := 42) (v := v48986) g ad42 (by decide) ft12_47 ev48986 ?_
          refine ev_ifeq f345_35 (fun c48987 => ?_) (fun c48987 => ?_)
          · refine ev_bipush ?_
            exact ev_ret rfl (by decide) (by decide) ⟨_, rfl, by omega, by omega, g, k0⟩
          · refine ev_aload_n rfl ?_
            obtain ⟨v48988, ev48988, lv48988, uv48988⟩ := g.rd ad42 (show 51 < 66 by decide) rf42_51
            refine g_getv (r := 42) (v := v48988) g ad42 (by decide) ft12_51 ev48988 ?_
            refine ev_ifne f345_38 (fun c48989 => ?_) (fun c48989 => ?_)
            · refine ev_iconst ?_
              refine ev_istore_n (L' := [(2, 42), (0, a1), (0, a2), (0, 0), (9, 0), (9, 0)]) (Nat.le_of_ble_eq_true rfl) rfl ?_
              refine ev_iconst ?_
              refine ev_istore (L' := [(2, 42), (0, a1), (0, a2), (0, 0), (0, 0), (9, 0)]) (Nat.le_of_ble_eq_true rfl) rfl ?_
              exact (s345_l la1 ua1 la2 ua2 4420).1 _ _ _ _ g k0 (by omega) (by omega) (by omega) (by omega) (by omega) (by omega) (by omega) (by omega) (by omega)
            · refine ev_bipush ?_
              exact ev_ret rfl (by decide) (by decide) ⟨_, rfl, by omega, by omega, g, k0⟩
/-! 346 clear -/
set_option maxHeartbeats 4000000 in
theorem s346 {G : GH} {h : JH} (g : Gd G h)  : jOk 1 0 0 346 [(2, 42)] h (PI G [(42, 48), (42, 52)] h 0 0 3) := by
  refine ⟨by decide, by rw [ml346]; exact Nat.le_of_ble_eq_true rfl, ?_⟩
  rw [ml346, pp346]
  show jEv _ none _ c346_0 0 0 _ (c346_0, [(2, 42), (9, 0)], [], h, 0, 0)
  have k0 := Kp.rf [(42, 48), (42, 52)] h
  refine ev_aload_n rfl ?_
  obtain ⟨v48996, ev48996, lv48996, uv48996⟩ := g.rd ad42 (show 47 < 66 by decide) rf42_47
  refine g_getv (r := 42) (v := v48996) g ad42 (by decide) ft12_47 ev48996 ?_
  refine ev_istore_n (L' := [(2, 42), (0, v48996)]) (Nat.le_of_ble_eq_true rfl) rfl ?_
  refine ev_aload_n rfl ?_
  refine ev_iconst ?_
  refine g_putf (r := 42) g ad42 (by decide) ft12_47 (by decide) (fun e => absurd e nz12_47) rf42_47 (by decide) (by omega) (by omega) (fun h48997 e48997 g48997 => ?_)
  have k48997 := k0.wr e48997 rfl
  refine ev_aload_n rfl ?_
  refine ev_iconst ?_
  refine g_putf (r := 42) g48997 ad42 (by decide) ft12_51 (by decide) (fun e => absurd e nz12_51) rf42_51 (by decide) (by omega) (by omega) (fun h48998 e48998 g48998 => ?_)
  have k48998 := k48997.wr e48998 rfl
  refine ev_iload_n rfl ?_
  exact ev_ret rfl (by decide) (by decide) ⟨_, rfl, by omega, by omega, g48998, k48998⟩
/-! 347 effort -/
set_option maxHeartbeats 4000000 in
theorem s347 {G : GH} {h : JH} (g : Gd G h) {a1 : Int} (la1 : (-2147483648) ≤ a1) (ua1 : a1 ≤ 2147483647) {a2 : Int} (la2 : (-2147483648) ≤ a2) (ua2 : a2 ≤ 2147483647) : jOk 2 0 0 347 [(2, 42), (0, a1), (0, a2)] h (PI G [(42, 54), (72, 0), (73, 0)] h 0 (-3) 4) := by
  refine ⟨by decide, by rw [ml347]; exact Nat.le_of_ble_eq_true rfl, ?_⟩
  rw [ml347, pp347]
  show jEv _ none _ c347_0 0 0 _ (c347_0, [(2, 42), (0, a1), (0, a2)], [], h, 0, 0)
  have k0 := Kp.rf [(42, 54), (72, 0), (73, 0)] h
  refine ev_iload_n rfl ?_
  refine ev_iconst ?_
  refine ev_bipush ?_
  refine ev_in (d := 0) (a := 0) (b := 0) (cd' := c242_0) (m := 3) (L0 := [(0, a1), (0, 0), (0, 99)]) (jcall_s (A := [(0, 99), (0, 0), (0, a1)]) (S' := []) (by decide) rfl (Nat.le_of_ble_eq_true rfl)) (by decide) ml242 pp242 (Nat.le_of_ble_eq_true rfl) rfl (by decide) (by decide) ?_
  refine ev_iload_n rfl ?_
  refine ev_iload_n rfl ?_
  refine ev_icmplt f242_14 (fun c49029 => ?_) (fun c49029 => ?_)
  · refine ev_iconst ?_
    refine ev_ret rfl (by decide) (by decide) ?_
    show jEv _ _ _ _ _ _ _ (_, [(2, 42), (0, a1), (0, a2)], [(0, 0)], _, _, _)
    refine ev_ifeq f347_20 (fun c49030 => ?_) (fun c49030 => absurd c49030 (by omega))
    refine ev_iconst ?_
    exact ev_ret rfl (by decide) (by decide) ⟨_, rfl, by omega, by omega, g, k0⟩
  · refine ev_iload_n rfl ?_
    refine ev_iload_n rfl ?_
    refine ev_icmpgt f242_14 (fun c49031 => ?_) (fun c49031 => ?_)
    · refine ev_iconst ?_
      refine ev_ret rfl (by decide) (by decide) ?_
      show jEv _ _ _ _ _ _ _ (_, [(2, 42), (0, a1), (0, a2)], [(0, 0)], _, _, _)
      refine ev_ifeq f347_20 (fun c49032 => ?_) (fun c49032 => absurd c49032 (by omega))
      refine ev_iconst ?_
      exact ev_ret rfl (by decide) (by decide) ⟨_, rfl, by omega, by omega, g, k0⟩
    · refine ev_iconst ?_
      refine ev_goto f242_15 ?_
      refine ev_ret rfl (by decide) (by decide) ?_
      show jEv _ _ _ _ _ _ _ (_, [(2, 42), (0, a1), (0, a2)], [(0, 1)], _, _, _)
      refine ev_ifeq f347_20 (fun c49033 => absurd c49033 (by omega)) (fun c49033 => ?_)
      refine ev_iload_n rfl ?_
      refine ev_iconst ?_
      refine ev_bipush ?_
      refine ev_in (d := 0) (a := 0) (b := 0) (cd' := c242_0) (m := 3) (L0 := [(0, a2), (0, 0), (0, 100)]) (jcall_s (A := [(0, 100), (0, 0), (0, a2)]) (S' := []) (by decide) rfl (Nat.le_of_ble_eq_true rfl)) (by decide) ml242 pp242 (Nat.le_of_ble_eq_true rfl) rfl (by decide) (by decide) ?_
      refine ev_iload_n rfl ?_
      refine ev_iload_n rfl ?_
      refine ev_icmplt f242_14 (fun c49034 => ?_) (fun c49034 => ?_)
      · refine ev_iconst ?_
        refine ev_ret rfl (by decide) (by decide) ?_
        show jEv _ _ _ _ _ _ _ (_, [(2, 42), (0, a1), (0, a2)], [(0, 0)], _, _, _)
        refine ev_ifne f347_22 (fun c49035 => absurd c49035 (by omega)) (fun c49035 => ?_)
        refine ev_iconst ?_
        exact ev_ret rfl (by decide) (by decide) ⟨_, rfl, by omega, by omega, g, k0⟩
      · refine ev_iload_n rfl ?_
        refine ev_iload_n rfl ?_
        refine ev_icmpgt f242_14 (fun c49036 => ?_) (fun c49036 => ?_)
        · refine ev_iconst ?_
          refine ev_ret rfl (by decide) (by decide) ?_
          show jEv _ _ _ _ _ _ _ (_, [(2, 42), (0, a1), (0, a2)], [(0, 0)], _, _, _)
          refine ev_ifne f347_22 (fun c49037 => absurd c49037 (by omega)) (fun c49037 => ?_)
          refine ev_iconst ?_
          exact ev_ret rfl (by decide) (by decide) ⟨_, rfl, by omega, by omega, g, k0⟩
        · refine ev_iconst ?_
          refine ev_goto f242_15 ?_
          refine ev_ret rfl (by decide) (by decide) ?_
          show jEv _ _ _ _ _ _ _ (_, [(2, 42), (0, a1), (0, a2)], [(0, 1)], _, _, _)
          refine ev_ifne f347_22 (fun c49038 => ?_) (fun c49038 => absurd c49038 (by omega))
          refine ev_aload_n rfl ?_
          obtain ⟨v49039, ev49039, lv49039, uv49039⟩ := g.rd ad42 (show 53 < 66 by decide) rf42_53
          refine g_getv (r := 42) (v := v49039) g ad42 (by decide) ft12_53 ev49039 ?_
          refine ev_iconst ?_
          refine ev_icmpne f347_33 (fun c49040 => ?_) (fun c49040 => ?_)
          · refine ev_aload_n rfl ?_
            refine g_getp (r := 42) (c := 72) g ad42 (by decide) (by decide) rf42_54 ft12_54 ?_
            refine ev_aload_n rfl ?_
            refine g_getv (r := 42) (v := v49039) g ad42 (by decide) ft12_53 (ev49039) ?_
            refine ev_iload_n rfl ?_
            refine g_iast g ad72 rt72 (fun _ => rfl) (by omega) (by omega) (by omega) (by omega) (fun h49041 e49041 g49041 => ?_)
            have k49041 := k0.wr e49041 rfl
            refine ev_aload_n rfl ?_
            refine g_getp (r := 42) (c := 73) g49041 ad42 (by decide) (by decide) rf42_55 ft12_55 ?_
            refine ev_aload_n rfl ?_
            refine g_getv (r := 42) (v := v49039) g49041 ad42 (by decide) ft12_53 (((jw_ne e49041 (Or.inl (by decide))).trans ev49039)) ?_
            refine ev_iload_n rfl ?_
            refine g_iast g49041 ad73 rt73 (fun _ => rfl) (by omega) (by omega) (by omega) (by omega) (fun h49042 e49042 g49042 => ?_)
            have k49042 := k49041.wr e49042 rfl
            refine ev_aload_n rfl ?_
            refine ev_dup (by decide) ?_
            refine g_getv (r := 42) (v := v49039) g49042 ad42 (by decide) ft12_53 (((jw_ne e49042 (Or.inl (by decide))).trans ((jw_ne e49041 (Or.inl (by decide))).trans ev49039))) ?_
            refine ev_iconst ?_
            refine ev_iadd (r := (v49039 + 1)) (by unfold w32; omega) ?_
            refine g_putf (r := 42) g49042 ad42 (by decide) ft12_53 (by decide) (fun e => absurd e nz12_53) rf42_53 (by decide) (by omega) (by omega) (fun h49043 e49043 g49043 => ?_)
            have k49043 := k49042.wr e49043 rfl
            refine ev_aload_n rfl ?_
            refine g_getv (r := 42) (v := (v49039 + 1)) g49043 ad42 (by decide) ft12_53 ((jw_eq e49043)) ?_
            exact ev_ret rfl (by decide) (by decide) ⟨_, rfl, by omega, by omega, g49043, k49043⟩
          · refine ev_bipush ?_
            exact ev_ret rfl (by decide) (by decide) ⟨_, rfl, by omega, by omega, g, k0⟩
/-! 348 effortFor -/
set_option maxHeartbeats 4000000 in
theorem s348_l {G : GH} {h : JH} {a1 : Int} (la1 : 0 ≤ a1) (ua1 : a1 ≤ 100) {a2 : Int} (la2 : 0 ≤ a2) (ua2 : a2 ≤ 999) : ∀ N : Nat, (∀ (h1 : JH) (x3 x4 x5 : Int) (j6 : AV), Gd G h1 → Kp [] h h1 → 0 ≤ a1 → a1 ≤ 100 → 0 ≤ a2 → a2 ≤ 999 → 0 ≤ x3 → x3 ≤ 3 → (-990000) ≤ x4 → x4 ≤ 9990000 → 0 ≤ x5 → x5 ≤ 4 → ((-x5) + 4) < N → jEv (jOk 0) none (fun _ => 0) c348_0 0 0 (PI G [] h 0 0 3) (c348_8, [(2, 42), (0, a1), (0, a2), (0, x3), (0, x4), (0, x5), j6], [], h1, 0, 0)) := by
  intro N
  induction N with
  | zero => exact fun h1 x3 x4 x5 j6 g1 k1 b0 b1 b2 b3 b4 b5 b6 b7 b8 b9 hm => absurd hm (by omega)
  | succ N ih =>
    show _
    intro h1 x3 x4 x5 j6 g1 k1 b0 b1 b2 b3 b4 b5 b6 b7 b8 b9 hm
    refine ev_iload rfl ?_
    refine ev_aload_n rfl ?_
    obtain ⟨v49091, ev49091, lv49091, uv49091⟩ := g1.rd ad42 (show 53 < 66 by decide) rf42_53
    refine g_getv (r := 42) (v := v49091) g1 ad42 (by decide) ft12_53 ev49091 ?_
    refine ev_icmpge f348_70 (fun c49092 => ?_) (fun c49092 => ?_)
    · refine ev_iload_n rfl ?_
      exact ev_ret rfl (by decide) (by decide) ⟨_, rfl, by omega, by omega, g1, k1⟩
    · refine ev_iload_n rfl ?_
      refine ev_iload_n rfl ?_
      refine g_imulB (a := 100) (b := 999) (a' := 0) (b' := 0) (by omega) (by omega) (by omega) (by omega) (by decide) (lo := 0) (hi := 99900) (by decide) (by decide) (fun v49093 ev49093 lv49093 uv49093 => ?_)
      refine ev_aload_n rfl ?_
      refine g_getp (r := 42) (c := 73) g1 ad42 (by decide) (by decide) rf42_55 ft12_55 ?_
      refine ev_iload rfl ?_
      refine g_iald g1 ad73 rt73 (by omega) (by omega) (fun v49094 ev49094 lv49094 uv49094 => ?_)
      refine g_imulB (a := 99900) (b := 100) (a' := 0) (b' := 0) (by omega) (by omega) (by omega) (by omega) (by decide) (lo := 0) (hi := 9990000) (by decide) (by decide) (fun v49095 ev49095 lv49095 uv49095 => ?_)
      refine ev_sipush ?_
      refine ev_aload_n rfl ?_
      refine g_getp (r := 42) (c := 72) g1 ad42 (by decide) (by decide) rf42_54 ft12_54 ?_
      refine ev_iload rfl ?_
      refine g_iald g1 ad72 rt72 (by omega) (by omega) (fun v49096 ev49096 lv49096 uv49096 => ?_)
      refine ev_imul (r := (10000 * v49096)) (by unfold w32; omega) ?_
      refine ev_isub (r := (v49095 + (-10000) * v49096)) (by unfold w32; omega) ?_
      refine ev_istore (L' := [(2, 42), (0, a1), (0, a2), (0, x3), (0, x4), (0, x5), (0, (v49095 + (-10000) * v49096))]) (Nat.le_of_ble_eq_true rfl) rfl ?_
      refine ev_iload rfl ?_
      refine ev_ifle f348_57 (fun c49097 => ?_) (fun c49097 => ?_)
      · refine ev_iload rfl ?_
        refine ev_istore_n (L' := [(2, 42), (0, a1), (0, a2), (0, x5), (0, x4), (0, x5), (0, (v49095 + (-10000) * v49096))]) (Nat.le_of_ble_eq_true rfl) rfl ?_
        refine ev_iload rfl ?_
        refine ev_istore (L' := [(2, 42), (0, a1), (0, a2), (0, x5), (0, (v49095 + (-10000) * v49096)), (0, x5), (0, (v49095 + (-10000) * v49096))]) (Nat.le_of_ble_eq_true rfl) rfl ?_
        refine ev_iinc (w := (x5 + 1)) (L' := [(2, 42), (0, a1), (0, a2), (0, x5), (0, (v49095 + (-10000) * v49096)), (0, (x5 + 1)), (0, (v49095 + (-10000) * v49096))]) rfl (by unfold w32; omega) rfl ?_
        refine ev_goto f348_8 ?_
        exact ih _ _ _ _ _ g1 k1 (by omega) (by omega) (by omega) (by omega) (by omega) (by omega) (by omega) (by omega) (by omega) (by omega) (by omega)
      · refine ev_iload rfl ?_
        refine ev_iload rfl ?_
        refine ev_icmpgt f348_57 (fun c49098 => ?_) (fun c49098 => ?_)
        · refine ev_iload rfl ?_
          refine ev_istore_n (L' := [(2, 42), (0, a1), (0, a2), (0, x5), (0, x4), (0, x5), (0, (v49095 + (-10000) * v49096))]) (Nat.le_of_ble_eq_true rfl) rfl ?_
          refine ev_iload rfl ?_
          refine ev_istore (L' := [(2, 42), (0, a1), (0, a2), (0, x5), (0, (v49095 + (-10000) * v49096)), (0, x5), (0, (v49095 + (-10000) * v49096))]) (Nat.le_of_ble_eq_true rfl) rfl ?_
          refine ev_iinc (w := (x5 + 1)) (L' := [(2, 42), (0, a1), (0, a2), (0, x5), (0, (v49095 + (-10000) * v49096)), (0, (x5 + 1)), (0, (v49095 + (-10000) * v49096))]) rfl (by unfold w32; omega) rfl ?_
          refine ev_goto f348_8 ?_
          exact ih _ _ _ _ _ g1 k1 (by omega) (by omega) (by omega) (by omega) (by omega) (by omega) (by omega) (by omega) (by omega) (by omega) (by omega)
        · refine ev_goto f348_64 ?_
          refine ev_iinc (w := (x5 + 1)) (L' := [(2, 42), (0, a1), (0, a2), (0, x3), (0, x4), (0, (x5 + 1)), (0, (v49095 + (-10000) * v49096))]) rfl (by unfold w32; omega) rfl ?_
          refine ev_goto f348_8 ?_
          exact ih _ _ _ _ _ g1 k1 (by omega) (by omega) (by omega) (by omega) (by omega) (by omega) (by omega) (by omega) (by omega) (by omega) (by omega)
set_option maxHeartbeats 4000000 in
theorem s348 {G : GH} {h : JH} (g : Gd G h) {a1 : Int} (la1 : 0 ≤ a1) (ua1 : a1 ≤ 100) {a2 : Int} (la2 : 0 ≤ a2) (ua2 : a2 ≤ 999) : jOk 1 0 0 348 [(2, 42), (0, a1), (0, a2)] h (PI G [] h 0 0 3) := by
  refine ⟨by decide, by rw [ml348]; exact Nat.le_of_ble_eq_true rfl, ?_⟩
  rw [ml348, pp348]
  show jEv _ none _ c348_0 0 0 _ (c348_0, [(2, 42), (0, a1), (0, a2), (9, 0), (9, 0), (9, 0), (9, 0)], [], h, 0, 0)
  have k0 := Kp.rf [] h
  refine ev_iconst ?_
  refine ev_istore_n (L' := [(2, 42), (0, a1), (0, a2), (0, 0), (9, 0), (9, 0), (9, 0)]) (Nat.le_of_ble_eq_true rfl) rfl ?_
  refine ev_iconst ?_
  refine ev_istore (L' := [(2, 42), (0, a1), (0, a2), (0, 0), (0, 0), (9, 0), (9, 0)]) (Nat.le_of_ble_eq_true rfl) rfl ?_
  refine ev_iconst ?_
  refine ev_istore (L' := [(2, 42), (0, a1), (0, a2), (0, 0), (0, 0), (0, 0), (9, 0)]) (Nat.le_of_ble_eq_true rfl) rfl ?_
  exact (s348_l la1 ua1 la2 ua2 10) _ _ _ _ _ g k0 (by omega) (by omega) (by omega) (by omega) (by omega) (by omega) (by omega) (by omega) (by omega) (by omega) (by omega)
/-! 349 hired -/
set_option maxHeartbeats 4000000 in
theorem s349_l {G : GH} {h : JH} {a1 : Int} (la1 : (-2147483648) ≤ a1) (ua1 : a1 ≤ 2147483647) {a2 : Int} (la2 : (-2147483648) ≤ a2) (ua2 : a2 ≤ 2147483647) : ∀ N : Nat, (∀ (h1 : JH) (x3 x4 x5 : Int) (j6 : AV), Gd G h1 → Kp [(42, 54)] h h1 → 0 ≤ a1 → a1 ≤ 999 → 0 ≤ a2 → a2 ≤ 3 → 0 ≤ x3 → x3 ≤ 100 → (-1) ≤ x4 → x4 ≤ 9990000 → 0 ≤ x5 → x5 ≤ 101 → ((-x5) + 101) < N → jEv (jOk 2) none (fun _ => 0) c349_0 0 0 (PI G [(42, 54)] h 0 (-2147483648) 2147483647) (c349_58, [(2, 42), (0, a1), (0, a2), (0, x3), (0, x4), (0, x5), j6], [], h1, 0, 0)) := by
  intro N
  induction N with
  | zero => exact fun h1 x3 x4 x5 j6 g1 k1 b0 b1 b2 b3 b4 b5 b6 b7 b8 b9 hm => absurd hm (by omega)
  | succ N ih =>
    show _
    intro h1 x3 x4 x5 j6 g1 k1 b0 b1 b2 b3 b4 b5 b6 b7 b8 b9 hm
    refine ev_iload rfl ?_
    refine ev_bipush ?_
    refine ev_icmpgt f349_110 (fun c49422 => ?_) (fun c49422 => ?_)
    · refine ev_iload_n rfl ?_
      refine ev_iconst ?_
      refine ev_icmpge f349_130 (fun c49423 => ?_) (fun c49423 => ?_)
      · refine ev_iload rfl ?_
        refine ev_i2l ?_
        refine ev_ldc2_w ?_
        refine ev_iload_n rfl ?_
        refine ev_iconst ?_
        refine ev_isub (r := (a2 - 2)) (by unfold w32; omega) ?_
        refine ev_call (jcall_s (A := [(0, (a2 - 2)), (1, 10000), (1, x4)]) (S' := []) (by decide) rfl (Nat.le_of_ble_eq_true rfl)) (jOk_le (by decide) (s244 g1 (by omega) (by omega) (by omega) (by omega) (by omega) (by omega))) (by decide) (by decide) (fun w49424 h49424 q49424 => ?_)
        obtain ⟨v49425, rfl, lv49425, uv49425, g49424, kk49424⟩ := q49424
        have k49424 := k1.tr kk49424 (by decide)
        show jEv _ _ _ _ _ _ _ (_, [(2, 42), (0, a1), (0, a2), (0, x3), (0, x4), (0, x5), j6], [(1, v49425)], _, _, _)
        refine g_l2iG (fun v49426 ev49426 lv49426 uv49426 => ?_)
        exact ev_ret rfl (by decide) (by decide) ⟨_, rfl, by omega, by omega, g49424, k49424⟩
      · refine ev_iload_n rfl ?_
        refine ev_ifne f349_123 (fun c49427 => ?_) (fun c49427 => ?_)
        · refine ev_aload_n rfl ?_
          refine ev_iload_n rfl ?_
          refine ev_iload_n rfl ?_
          refine ev_call (jcall_v (A := [(0, a1), (0, x3)]) (S' := []) (r := 42) rfl (g1.lt ad42) (g1.tg ad42) (Nat.le_of_ble_eq_true rfl)) (jOk_le (by decide) (s348 g1 (by omega) (by omega) (by omega) (by omega))) (by decide) (by decide) (fun w49428 h49428 q49428 => ?_)
          obtain ⟨v49429, rfl, lv49429, uv49429, g49428, kk49428⟩ := q49428
          have k49428 := k1.tr kk49428 (by decide)
          show jEv _ _ _ _ _ _ _ (_, [(2, 42), (0, a1), (0, a2), (0, x3), (0, x4), (0, x5), j6], [(0, v49429)], _, _, _)
          exact ev_ret rfl (by decide) (by decide) ⟨_, rfl, by omega, by omega, g49428, k49428⟩
        · refine ev_iload_n rfl ?_
          refine ev_goto f349_129 ?_
          exact ev_ret rfl (by decide) (by decide) ⟨_, rfl, by omega, by omega, g1, k1⟩
    · refine ev_bipush ?_
      refine ev_iload rfl ?_
      refine ev_isub (r := ((-x5) + 100)) (by unfold w32; omega) ?_
      refine ev_iload_n rfl ?_
      refine g_imulB (a := 100) (b := 999) (a' := 0) (b' := 0) (by omega) (by omega) (by omega) (by omega) (by decide) (lo := 0) (hi := 99900) (by decide) (by decide) (fun v49430 ev49430 lv49430 uv49430 => ?_)
      refine ev_aload_n rfl ?_
      refine g_getp (r := 42) (c := 73) g1 ad42 (by decide) (by decide) rf42_55 ft12_55 ?_
      refine ev_aload_n rfl ?_
      refine ev_iload rfl ?_
      refine ev_iload_n rfl ?_
      refine ev_call (jcall_v (A := [(0, a1), (0, x5)]) (S' := [(2, 73), (0, v49430)]) (r := 42) rfl (g1.lt ad42) (g1.tg ad42) (Nat.le_of_ble_eq_true rfl)) (jOk_le (by decide) (s348 g1 (by omega) (by omega) (by omega) (by omega))) (by decide) (by decide) (fun w49431 h49431 q49431 => ?_)
      obtain ⟨v49432, rfl, lv49432, uv49432, g49431, kk49431⟩ := q49431
      have k49431 := k1.tr kk49431 (by decide)
      show jEv _ _ _ _ _ _ _ (_, [(2, 42), (0, a1), (0, a2), (0, x3), (0, x4), (0, x5), j6], [(0, v49432), (2, 73), (0, v49430)], _, _, _)
      refine g_iald g49431 ad73 rt73 (by omega) (by omega) (fun v49433 ev49433 lv49433 uv49433 => ?_)
      refine g_imulB (a := 99900) (b := 100) (a' := 0) (b' := 0) (by omega) (by omega) (by omega) (by omega) (by decide) (lo := 0) (hi := 9990000) (by decide) (by decide) (fun v49434 ev49434 lv49434 uv49434 => ?_)
      refine ev_istore (L' := [(2, 42), (0, a1), (0, a2), (0, x3), (0, x4), (0, x5), (0, v49434)]) (Nat.le_of_ble_eq_true rfl) rfl ?_
      refine ev_iload rfl ?_
      refine ev_iload rfl ?_
      refine ev_icmpgt f349_97 (fun c49435 => ?_) (fun c49435 => ?_)
      · refine ev_iload rfl ?_
        refine ev_istore_n (L' := [(2, 42), (0, a1), (0, a2), (0, x5), (0, x4), (0, x5), (0, v49434)]) (Nat.le_of_ble_eq_true rfl) rfl ?_
        refine ev_iload rfl ?_
        refine ev_istore (L' := [(2, 42), (0, a1), (0, a2), (0, x5), (0, v49434), (0, x5), (0, v49434)]) (Nat.le_of_ble_eq_true rfl) rfl ?_
        refine ev_iinc (w := (x5 + 1)) (L' := [(2, 42), (0, a1), (0, a2), (0, x5), (0, v49434), (0, (x5 + 1)), (0, v49434)]) rfl (by unfold w32; omega) rfl ?_
        refine ev_goto f349_58 ?_
        exact ih _ _ _ _ _ g49431 k49431 (by omega) (by omega) (by omega) (by omega) (by omega) (by omega) (by omega) (by omega) (by omega) (by omega) (by omega)
      · refine ev_goto f349_104 ?_
        refine ev_iinc (w := (x5 + 1)) (L' := [(2, 42), (0, a1), (0, a2), (0, x3), (0, x4), (0, (x5 + 1)), (0, v49434)]) rfl (by unfold w32; omega) rfl ?_
        refine ev_goto f349_58 ?_
        exact ih _ _ _ _ _ g49431 k49431 (by omega) (by omega) (by omega) (by omega) (by omega) (by omega) (by omega) (by omega) (by omega) (by omega) (by omega)
set_option maxHeartbeats 4000000 in
theorem s349 {G : GH} {h : JH} (g : Gd G h) {a1 : Int} (la1 : (-2147483648) ≤ a1) (ua1 : a1 ≤ 2147483647) {a2 : Int} (la2 : (-2147483648) ≤ a2) (ua2 : a2 ≤ 2147483647) : jOk 3 0 0 349 [(2, 42), (0, a1), (0, a2)] h (PI G [(42, 54)] h 0 (-2147483648) 2147483647) := by
  refine ⟨by decide, by rw [ml349]; exact Nat.le_of_ble_eq_true rfl, ?_⟩
  rw [ml349, pp349]
  show jEv _ none _ c349_0 0 0 _ (c349_0, [(2, 42), (0, a1), (0, a2), (9, 0), (9, 0), (9, 0), (9, 0)], [], h, 0, 0)
  have k0 := Kp.rf [(42, 54)] h
  refine ev_iload_n rfl ?_
  refine ev_iconst ?_
  refine ev_sipush ?_
  refine ev_in (d := 1) (a := 0) (b := 0) (cd' := c242_0) (m := 3) (L0 := [(0, a1), (0, 0), (0, 999)]) (jcall_s (A := [(0, 999), (0, 0), (0, a1)]) (S' := []) (by decide) rfl (Nat.le_of_ble_eq_true rfl)) (by decide) ml242 pp242 (Nat.le_of_ble_eq_true rfl) rfl (by decide) (by decide) ?_
  refine ev_iload_n rfl ?_
  refine ev_iload_n rfl ?_
  refine ev_icmplt f242_14 (fun c49436 => ?_) (fun c49436 => ?_)
  · refine ev_iconst ?_
    refine ev_ret rfl (by decide) (by decide) ?_
    show jEv _ _ _ _ _ _ _ (_, [(2, 42), (0, a1), (0, a2), (9, 0), (9, 0), (9, 0), (9, 0)], [(0, 0)], _, _, _)
    refine ev_ifeq f349_20 (fun c49437 => ?_) (fun c49437 => absurd c49437 (by omega))
    refine ev_iconst ?_
    exact ev_ret rfl (by decide) (by decide) ⟨_, rfl, by omega, by omega, g, k0⟩
  · refine ev_iload_n rfl ?_
    refine ev_iload_n rfl ?_
    refine ev_icmpgt f242_14 (fun c49438 => ?_) (fun c49438 => ?_)
    · refine ev_iconst ?_
      refine ev_ret rfl (by decide) (by decide) ?_
      show jEv _ _ _ _ _ _ _ (_, [(2, 42), (0, a1), (0, a2), (9, 0), (9, 0), (9, 0), (9, 0)], [(0, 0)], _, _, _)
      refine ev_ifeq f349_20 (fun c49439 => ?_) (fun c49439 => absurd c49439 (by omega))
      refine ev_iconst ?_
      exact ev_ret rfl (by decide) (by decide) ⟨_, rfl, by omega, by omega, g, k0⟩
    · refine ev_iconst ?_
      refine ev_goto f242_15 ?_
      refine ev_ret rfl (by decide) (by decide) ?_
      show jEv _ _ _ _ _ _ _ (_, [(2, 42), (0, a1), (0, a2), (9, 0), (9, 0), (9, 0), (9, 0)], [(0, 1)], _, _, _)
      refine ev_ifeq f349_20 (fun c49440 => absurd c49440 (by omega)) (fun c49440 => ?_)
      refine ev_iload_n rfl ?_
      refine ev_iconst ?_
      refine ev_iconst ?_
      refine ev_in (d := 1) (a := 0) (b := 0) (cd' := c242_0) (m := 3) (L0 := [(0, a2), (0, (-1)), (0, 3)]) (jcall_s (A := [(0, 3), (0, (-1)), (0, a2)]) (S' := []) (by decide) rfl (Nat.le_of_ble_eq_true rfl)) (by decide) ml242 pp242 (Nat.le_of_ble_eq_true rfl) rfl (by decide) (by decide) ?_
      refine ev_iload_n rfl ?_
      refine ev_iload_n rfl ?_
      refine ev_icmplt f242_14 (fun c49441 => ?_) (fun c49441 => ?_)
      · refine ev_iconst ?_
        refine ev_ret rfl (by decide) (by decide) ?_
        show jEv _ _ _ _ _ _ _ (_, [(2, 42), (0, a1), (0, a2), (9, 0), (9, 0), (9, 0), (9, 0)], [(0, 0)], _, _, _)
        refine ev_ifne f349_22 (fun c49442 => absurd c49442 (by omega)) (fun c49442 => ?_)
        refine ev_iconst ?_
        exact ev_ret rfl (by decide) (by decide) ⟨_, rfl, by omega, by omega, g, k0⟩
      · refine ev_iload_n rfl ?_
        refine ev_iload_n rfl ?_
        refine ev_icmpgt f242_14 (fun c49443 => ?_) (fun c49443 => ?_)
        · refine ev_iconst ?_
          refine ev_ret rfl (by decide) (by decide) ?_
          show jEv _ _ _ _ _ _ _ (_, [(2, 42), (0, a1), (0, a2), (9, 0), (9, 0), (9, 0), (9, 0)], [(0, 0)], _, _, _)
          refine ev_ifne f349_22 (fun c49444 => absurd c49444 (by omega)) (fun c49444 => ?_)
          refine ev_iconst ?_
          exact ev_ret rfl (by decide) (by decide) ⟨_, rfl, by omega, by omega, g, k0⟩
        · refine ev_iconst ?_
          refine ev_goto f242_15 ?_
          refine ev_ret rfl (by decide) (by decide) ?_
          show jEv _ _ _ _ _ _ _ (_, [(2, 42), (0, a1), (0, a2), (9, 0), (9, 0), (9, 0), (9, 0)], [(0, 1)], _, _, _)
          refine ev_ifne f349_22 (fun c49445 => ?_) (fun c49445 => absurd c49445 (by omega))
          refine ev_iload_n rfl ?_
          refine ev_iconst ?_
          refine ev_icmpne f349_39 (fun c49446 => ?_) (fun c49446 => ?_)
          · refine ev_aload_n rfl ?_
            obtain ⟨v49447, ev49447, lv49447, uv49447⟩ := g.rd ad42 (show 53 < 66 by decide) rf42_53
            refine g_getv (r := 42) (v := v49447) g ad42 (by decide) ft12_53 ev49447 ?_
            refine ev_iconst ?_
            refine ev_icmpge f349_50 (fun c49448 => ?_) (fun c49448 => ?_)
            · refine ev_iconst ?_
              refine ev_istore_n (L' := [(2, 42), (0, a1), (0, a2), (0, 0), (9, 0), (9, 0), (9, 0)]) (Nat.le_of_ble_eq_true rfl) rfl ?_
              refine ev_iconst ?_
              refine ev_istore (L' := [(2, 42), (0, a1), (0, a2), (0, 0), (0, (-1)), (9, 0), (9, 0)]) (Nat.le_of_ble_eq_true rfl) rfl ?_
              refine ev_iconst ?_
              refine ev_istore (L' := [(2, 42), (0, a1), (0, a2), (0, 0), (0, (-1)), (0, 0), (9, 0)]) (Nat.le_of_ble_eq_true rfl) rfl ?_
              exact (s349_l la1 ua1 la2 ua2 204) _ _ _ _ _ g k0 (by omega) (by omega) (by omega) (by omega) (by omega) (by omega) (by omega) (by omega) (by omega) (by omega) (by omega)
            · refine ev_bipush ?_
              exact ev_ret rfl (by decide) (by decide) ⟨_, rfl, by omega, by omega, g, k0⟩
          · refine ev_aload_n rfl ?_
            obtain ⟨v49449, ev49449, lv49449, uv49449⟩ := g.rd ad42 (show 53 < 66 by decide) rf42_53
            refine g_getv (r := 42) (v := v49449) g ad42 (by decide) ft12_53 ev49449 ?_
            refine ev_istore_n (L' := [(2, 42), (0, a1), (0, a2), (0, v49449), (9, 0), (9, 0), (9, 0)]) (Nat.le_of_ble_eq_true rfl) rfl ?_
            refine ev_aload_n rfl ?_
            refine ev_iconst ?_
            refine g_putf (r := 42) g ad42 (by decide) ft12_53 (by decide) (fun e => absurd e nz12_53) rf42_53 (by decide) (by omega) (by omega) (fun h49450 e49450 g49450 => ?_)
            have k49450 := k0.wr e49450 rfl
            refine ev_iload_n rfl ?_
            exact ev_ret rfl (by decide) (by decide) ⟨_, rfl, by omega, by omega, g49450, k49450⟩
/-! 351 day -/
set_option maxHeartbeats 4000000 in
theorem s351 {G : GH} {h : JH} (g : Gd G h) {a1 : Int} (la1 : (-2147483648) ≤ a1) (ua1 : a1 ≤ 2147483647) {a2 : Int} (la2 : (-2147483648) ≤ a2) (ua2 : a2 ≤ 2147483647) {a3 : Int} (la3 : (-2147483648) ≤ a3) (ua3 : a3 ≤ 2147483647) {a4 : Int} (la4 : (-2147483648) ≤ a4) (ua4 : a4 ≤ 2147483647) : jOk 3 0 0 351 [(2, 42), (0, a1), (0, a2), (0, a3), (0, a4)] h (PI G [(74, 0), (75, 0), (76, 0)] h 0 (-1) 1) := by
  refine ⟨by decide, by rw [ml351]; exact Nat.le_of_ble_eq_true rfl, ?_⟩
  rw [ml351, pp351]
  show jEv _ none _ c351_0 0 0 _ (c351_0, [(2, 42), (0, a1), (0, a2), (0, a3), (0, a4)], [], h, 0, 0)
  have k0 := Kp.rf [(74, 0), (75, 0), (76, 0)] h
  refine ev_iload_n rfl ?_
  refine ev_iconst ?_
  refine ev_bipush ?_
  refine ev_in (d := 1) (a := 0) (b := 0) (cd' := c242_0) (m := 3) (L0 := [(0, a1), (0, 0), (0, 19)]) (jcall_s (A := [(0, 19), (0, 0), (0, a1)]) (S' := []) (by decide) rfl (Nat.le_of_ble_eq_true rfl)) (by decide) ml242 pp242 (Nat.le_of_ble_eq_true rfl) rfl (by decide) (by decide) ?_
  refine ev_iload_n rfl ?_
  refine ev_iload_n rfl ?_
  refine ev_icmplt f242_14 (fun c49511 => ?_) (fun c49511 => ?_)
  · refine ev_iconst ?_
    refine ev_ret rfl (by decide) (by decide) ?_
    show jEv _ _ _ _ _ _ _ (_, [(2, 42), (0, a1), (0, a2), (0, a3), (0, a4)], [(0, 0)], _, _, _)
    refine ev_ifeq f351_20 (fun c49512 => ?_) (fun c49512 => absurd c49512 (by omega))
    refine ev_iconst ?_
    exact ev_ret rfl (by decide) (by decide) ⟨_, rfl, by omega, by omega, g, k0⟩
  · refine ev_iload_n rfl ?_
    refine ev_iload_n rfl ?_
    refine ev_icmpgt f242_14 (fun c49513 => ?_) (fun c49513 => ?_)
    · refine ev_iconst ?_
      refine ev_ret rfl (by decide) (by decide) ?_
      show jEv _ _ _ _ _ _ _ (_, [(2, 42), (0, a1), (0, a2), (0, a3), (0, a4)], [(0, 0)], _, _, _)
      refine ev_ifeq f351_20 (fun c49514 => ?_) (fun c49514 => absurd c49514 (by omega))
      refine ev_iconst ?_
      exact ev_ret rfl (by decide) (by decide) ⟨_, rfl, by omega, by omega, g, k0⟩
    · refine ev_iconst ?_
      refine ev_goto f242_15 ?_
      refine ev_ret rfl (by decide) (by decide) ?_
      show jEv _ _ _ _ _ _ _ (_, [(2, 42), (0, a1), (0, a2), (0, a3), (0, a4)], [(0, 1)], _, _, _)
      refine ev_ifeq f351_20 (fun c49515 => absurd c49515 (by omega)) (fun c49515 => ?_)
      refine ev_iload_n rfl ?_
      refine ev_iload_n rfl ?_
      refine ev_iload rfl ?_
      refine ev_in (d := 1) (a := 0) (b := 0) (cd' := c350_0) (m := 3) (L0 := [(0, a2), (0, a3), (0, a4)]) (jcall_s (A := [(0, a4), (0, a3), (0, a2)]) (S' := []) (by decide) rfl (Nat.le_of_ble_eq_true rfl)) (by decide) ml350 pp350 (Nat.le_of_ble_eq_true rfl) rfl (by decide) (by decide) ?_
      refine ev_iload_n rfl ?_
      refine ev_iconst ?_
      refine ev_sipush ?_
      refine ev_in (d := 0) (a := 0) (b := 0) (cd' := c242_0) (m := 3) (L0 := [(0, a2), (0, 0), (0, 999)]) (jcall_s (A := [(0, 999), (0, 0), (0, a2)]) (S' := []) (by decide) rfl (Nat.le_of_ble_eq_true rfl)) (by decide) ml242 pp242 (Nat.le_of_ble_eq_true rfl) rfl (by decide) (by decide) ?_
      refine ev_iload_n rfl ?_
      refine ev_iload_n rfl ?_
      refine ev_icmplt f242_14 (fun c49516 => ?_) (fun c49516 => ?_)
      · refine ev_iconst ?_
        refine ev_ret rfl (by decide) (by decide) ?_
        show jEv _ _ _ _ _ _ _ (_, [(0, a2), (0, a3), (0, a4)], [(0, 0)], _, _, _)
        refine ev_ifeq f350_35 (fun c49517 => ?_) (fun c49517 => absurd c49517 (by omega))
        refine ev_iconst ?_
        refine ev_ret rfl (by decide) (by decide) ?_
        show jEv _ _ _ _ _ _ _ (_, [(2, 42), (0, a1), (0, a2), (0, a3), (0, a4)], [(0, 0)], _, _, _)
        refine ev_ifne f351_22 (fun c49518 => absurd c49518 (by omega)) (fun c49518 => ?_)
        refine ev_iconst ?_
        exact ev_ret rfl (by decide) (by decide) ⟨_, rfl, by omega, by omega, g, k0⟩
      · refine ev_iload_n rfl ?_
        refine ev_iload_n rfl ?_
        refine ev_icmpgt f242_14 (fun c49519 => ?_) (fun c49519 => ?_)
        · refine ev_iconst ?_
          refine ev_ret rfl (by decide) (by decide) ?_
          show jEv _ _ _ _ _ _ _ (_, [(0, a2), (0, a3), (0, a4)], [(0, 0)], _, _, _)
          refine ev_ifeq f350_35 (fun c49520 => ?_) (fun c49520 => absurd c49520 (by omega))
          refine ev_iconst ?_
          refine ev_ret rfl (by decide) (by decide) ?_
          show jEv _ _ _ _ _ _ _ (_, [(2, 42), (0, a1), (0, a2), (0, a3), (0, a4)], [(0, 0)], _, _, _)
          refine ev_ifne f351_22 (fun c49521 => absurd c49521 (by omega)) (fun c49521 => ?_)
          refine ev_iconst ?_
          exact ev_ret rfl (by decide) (by decide) ⟨_, rfl, by omega, by omega, g, k0⟩
        · refine ev_iconst ?_
          refine ev_goto f242_15 ?_
          refine ev_ret rfl (by decide) (by decide) ?_
          show jEv _ _ _ _ _ _ _ (_, [(0, a2), (0, a3), (0, a4)], [(0, 1)], _, _, _)
          refine ev_ifeq f350_35 (fun c49522 => absurd c49522 (by omega)) (fun c49522 => ?_)
          refine ev_iload_n rfl ?_
          refine ev_iconst ?_
          refine ev_bipush ?_
          refine ev_in (d := 0) (a := 0) (b := 0) (cd' := c242_0) (m := 3) (L0 := [(0, a3), (0, 0), (0, 100)]) (jcall_s (A := [(0, 100), (0, 0), (0, a3)]) (S' := []) (by decide) rfl (Nat.le_of_ble_eq_true rfl)) (by decide) ml242 pp242 (Nat.le_of_ble_eq_true rfl) rfl (by decide) (by decide) ?_
          refine ev_iload_n rfl ?_
          refine ev_iload_n rfl ?_
          refine ev_icmplt f242_14 (fun c49523 => ?_) (fun c49523 => ?_)
          · refine ev_iconst ?_
            refine ev_ret rfl (by decide) (by decide) ?_
            show jEv _ _ _ _ _ _ _ (_, [(0, a2), (0, a3), (0, a4)], [(0, 0)], _, _, _)
            refine ev_ifeq f350_35 (fun c49524 => ?_) (fun c49524 => absurd c49524 (by omega))
            refine ev_iconst ?_
            refine ev_ret rfl (by decide) (by decide) ?_
            show jEv _ _ _ _ _ _ _ (_, [(2, 42), (0, a1), (0, a2), (0, a3), (0, a4)], [(0, 0)], _, _, _)
            refine ev_ifne f351_22 (fun c49525 => absurd c49525 (by omega)) (fun c49525 => ?_)
            refine ev_iconst ?_
            exact ev_ret rfl (by decide) (by decide) ⟨_, rfl, by omega, by omega, g, k0⟩
          · refine ev_iload_n rfl ?_
            refine ev_iload_n rfl ?_
            refine ev_icmpgt f242_14 (fun c49526 => ?_) (fun c49526 => ?_)
            · refine ev_iconst ?_
              refine ev_ret rfl (by decide) (by decide) ?_
              show jEv _ _ _ _ _ _ _ (_, [(0, a2), (0, a3), (0, a4)], [(0, 0)], _, _, _)
              refine ev_ifeq f350_35 (fun c49527 => ?_) (fun c49527 => absurd c49527 (by omega))
              refine ev_iconst ?_
              refine ev_ret rfl (by decide) (by decide) ?_
              show jEv _ _ _ _ _ _ _ (_, [(2, 42), (0, a1), (0, a2), (0, a3), (0, a4)], [(0, 0)], _, _, _)
              refine ev_ifne f351_22 (fun c49528 => absurd c49528 (by omega)) (fun c49528 => ?_)
              refine ev_iconst ?_
              exact ev_ret rfl (by decide) (by decide) ⟨_, rfl, by omega, by omega, g, k0⟩
            · refine ev_iconst ?_
              refine ev_goto f242_15 ?_
              refine ev_ret rfl (by decide) (by decide) ?_
              show jEv _ _ _ _ _ _ _ (_, [(0, a2), (0, a3), (0, a4)], [(0, 1)], _, _, _)
              refine ev_ifeq f350_35 (fun c49529 => absurd c49529 (by omega)) (fun c49529 => ?_)
              refine ev_iload_n rfl ?_
              refine ev_iconst ?_
              refine ev_bipush ?_
              refine ev_in (d := 0) (a := 0) (b := 0) (cd' := c242_0) (m := 3) (L0 := [(0, a4), (0, 0), (0, 99)]) (jcall_s (A := [(0, 99), (0, 0), (0, a4)]) (S' := []) (by decide) rfl (Nat.le_of_ble_eq_true rfl)) (by decide) ml242 pp242 (Nat.le_of_ble_eq_true rfl) rfl (by decide) (by decide) ?_
              refine ev_iload_n rfl ?_
              refine ev_iload_n rfl ?_
              refine ev_icmplt f242_14 (fun c49530 => ?_) (fun c49530 => ?_)
              · refine ev_iconst ?_
                refine ev_ret rfl (by decide) (by decide) ?_
                show jEv _ _ _ _ _ _ _ (_, [(0, a2), (0, a3), (0, a4)], [(0, 0)], _, _, _)
                refine ev_ifeq f350_35 (fun c49531 => ?_) (fun c49531 => absurd c49531 (by omega))
                refine ev_iconst ?_
                refine ev_ret rfl (by decide) (by decide) ?_
                show jEv _ _ _ _ _ _ _ (_, [(2, 42), (0, a1), (0, a2), (0, a3), (0, a4)], [(0, 0)], _, _, _)
                refine ev_ifne f351_22 (fun c49532 => absurd c49532 (by omega)) (fun c49532 => ?_)
                refine ev_iconst ?_
                exact ev_ret rfl (by decide) (by decide) ⟨_, rfl, by omega, by omega, g, k0⟩
              · refine ev_iload_n rfl ?_
                refine ev_iload_n rfl ?_
                refine ev_icmpgt f242_14 (fun c49533 => ?_) (fun c49533 => ?_)
                · refine ev_iconst ?_
                  refine ev_ret rfl (by decide) (by decide) ?_
                  show jEv _ _ _ _ _ _ _ (_, [(0, a2), (0, a3), (0, a4)], [(0, 0)], _, _, _)
                  refine ev_ifeq f350_35 (fun c49534 => ?_) (fun c49534 => absurd c49534 (by omega))
                  refine ev_iconst ?_
                  refine ev_ret rfl (by decide) (by decide) ?_
                  show jEv _ _ _ _ _ _ _ (_, [(2, 42), (0, a1), (0, a2), (0, a3), (0, a4)], [(0, 0)], _, _, _)
                  refine ev_ifne f351_22 (fun c49535 => absurd c49535 (by omega)) (fun c49535 => ?_)
                  refine ev_iconst ?_
                  exact ev_ret rfl (by decide) (by decide) ⟨_, rfl, by omega, by omega, g, k0⟩
                · refine ev_iconst ?_
                  refine ev_goto f242_15 ?_
                  refine ev_ret rfl (by decide) (by decide) ?_
                  show jEv _ _ _ _ _ _ _ (_, [(0, a2), (0, a3), (0, a4)], [(0, 1)], _, _, _)
                  refine ev_ifeq f350_35 (fun c49536 => absurd c49536 (by omega)) (fun c49536 => ?_)
                  refine ev_iconst ?_
                  refine ev_goto f350_36 ?_
                  refine ev_ret rfl (by decide) (by decide) ?_
                  show jEv _ _ _ _ _ _ _ (_, [(2, 42), (0, a1), (0, a2), (0, a3), (0, a4)], [(0, 1)], _, _, _)
                  refine ev_ifne f351_22 (fun c49537 => ?_) (fun c49537 => absurd c49537 (by omega))
                  refine ev_aload_n rfl ?_
                  refine g_getp (r := 42) (c := 74) g ad42 (by decide) (by decide) rf42_56 ft12_56 ?_
                  refine ev_iload_n rfl ?_
                  refine ev_iload_n rfl ?_
                  refine g_iast g ad74 rt74 (fun _ => rfl) (by omega) (by omega) (by omega) (by omega) (fun h49538 e49538 g49538 => ?_)
                  have k49538 := k0.wr e49538 rfl
                  refine ev_aload_n rfl ?_
                  refine g_getp (r := 42) (c := 75) g49538 ad42 (by decide) (by decide) rf42_57 ft12_57 ?_
                  refine ev_iload_n rfl ?_
                  refine ev_iload_n rfl ?_
                  refine g_iast g49538 ad75 rt75 (fun _ => rfl) (by omega) (by omega) (by omega) (by omega) (fun h49539 e49539 g49539 => ?_)
                  have k49539 := k49538.wr e49539 rfl
                  refine ev_aload_n rfl ?_
                  refine g_getp (r := 42) (c := 76) g49539 ad42 (by decide) (by decide) rf42_58 ft12_58 ?_
                  refine ev_iload_n rfl ?_
                  refine ev_iload rfl ?_
                  refine g_iast g49539 ad76 rt76 (fun _ => rfl) (by omega) (by omega) (by omega) (by omega) (fun h49540 e49540 g49540 => ?_)
                  have k49540 := k49539.wr e49540 rfl
                  refine ev_iconst ?_
                  exact ev_ret rfl (by decide) (by decide) ⟨_, rfl, by omega, by omega, g49540, k49540⟩
/-! 352 days -/
set_option maxHeartbeats 4000000 in
theorem s352_l {G : GH} {h : JH} {a1 : Int} (la1 : (-2147483648) ≤ a1) (ua1 : a1 ≤ 2147483647) {a2 : Int} (la2 : (-2147483648) ≤ a2) (ua2 : a2 ≤ 2147483647) {a3 : Int} (la3 : (-2147483648) ≤ a3) (ua3 : a3 ≤ 2147483647) : ∀ N : Nat, (∀ (h1 : JH) (x4 : Int) (j5 j7 : AV), Gd G h1 → Kp [(74, 0), (75, 0), (76, 0)] h h1 → 0 ≤ a1 → a1 ≤ 5 → (-2147483648) ≤ a2 → a2 ≤ 2147483647 → 1 ≤ a3 → a3 ≤ 20 → 0 ≤ x4 → x4 ≤ 20 → ((-x4) + 20) < N → jEv (jOk 2) none (fun _ => 0) c352_0 0 0 (PI G [(74, 0), (75, 0), (76, 0)] h 0 (-12) 20) (c352_58, [(2, 42), (0, a1), (0, a2), (0, a3), (0, x4), j5, (9, 0), j7], [], h1, 0, 0)) := by
  intro N
  induction N with
  | zero => exact fun h1 x4 j5 j7 g1 k1 b0 b1 b2 b3 b4 b5 b6 b7 hm => absurd hm (by omega)
  | succ N ih =>
    show _
    intro h1 x4 j5 j7 g1 k1 b0 b1 b2 b3 b4 b5 b6 b7 hm
    refine ev_iload rfl ?_
    refine ev_iload_n rfl ?_
    refine ev_icmpge f352_203 (fun c50255 => ?_) (fun c50255 => ?_)
    · refine ev_iload_n rfl ?_
      exact ev_ret rfl (by decide) (by decide) ⟨_, rfl, by omega, by omega, g1, k1⟩
    · refine ev_iload_n rfl ?_
      refine ev_i2l ?_
      refine ev_iconst ?_
      refine ev_iload rfl ?_
      refine ev_imul (r := (3 * x4)) (by unfold w32; omega) ?_
      refine ev_i2l ?_
      refine ev_ladd (r := (a2 + 3 * x4)) (by unfold w64; omega) ?_
      refine ev_lstore (L' := [(2, 42), (0, a1), (0, a2), (0, a3), (0, x4), (1, (a2 + 3 * x4)), (9, 0), j7]) (Nat.le_of_ble_eq_true rfl) rfl ?_
      refine ev_lload rfl ?_
      refine ev_lconst ?_
      refine ev_lcmp ?_
      refine ev_iflt f352_98 (fun c50256 => ?_) (fun c50256 => ?_)
      · have c50256b := jcmpL_lt c50256
        refine ev_iload rfl ?_
        exact ev_ret rfl (by decide) (by decide) ⟨_, rfl, by omega, by omega, g1, k1⟩
      · have c50256b := jcmpL_ltN c50256
        refine ev_lload rfl ?_
        refine ev_ldc2_w ?_
        refine ev_ladd (r := (a2 + 3 * x4 + 2)) (by unfold w64; omega) ?_
        refine ev_aload_n rfl ?_
        refine g_getp (r := 42) (c := 80) g1 ad42 (by decide) (by decide) rf42_63 ft12_63 ?_
        refine ev_iload_n rfl ?_
        refine g_iald g1 ad80 rt80 (by omega) (by omega) (fun v50257 ev50257 lv50257 uv50257 => ?_)
        refine ev_i2l ?_
        refine ev_lcmp ?_
        refine ev_iflt f352_101 (fun c50258 => ?_) (fun c50258 => ?_)
        · have c50258b := jcmpL_lt c50258
          refine ev_bipush ?_
          refine ev_iload_n rfl ?_
          refine ev_imul (r := (60 * a1)) (by unfold w32; omega) ?_
          refine ev_lload rfl ?_
          refine ev_l2i (r := (a2 + 3 * x4)) (by unfold w32; omega) ?_
          refine ev_iadd (r := (60 * a1 + a2 + 3 * x4)) (by unfold w32; omega) ?_
          refine ev_istore (L' := [(2, 42), (0, a1), (0, a2), (0, a3), (0, x4), (1, (a2 + 3 * x4)), (9, 0), (0, (60 * a1 + a2 + 3 * x4))]) (Nat.le_of_ble_eq_true rfl) rfl ?_
          refine ev_aload_n rfl ?_
          refine g_getp (r := 42) (c := 81) g1 ad42 (by decide) (by decide) rf42_64 ft12_64 ?_
          refine ev_iload rfl ?_
          refine g_lald g1 ad81 rt81 (by omega) (by omega) (fun v50259 ev50259 lv50259 uv50259 => ?_)
          refine g_l2iG (fun v50260 ev50260 lv50260 uv50260 => ?_)
          refine ev_aload_n rfl ?_
          refine g_getp (r := 42) (c := 81) g1 ad42 (by decide) (by decide) rf42_64 ft12_64 ?_
          refine ev_iload rfl ?_
          refine ev_iconst ?_
          refine ev_iadd (r := (60 * a1 + a2 + 3 * x4 + 1)) (by unfold w32; omega) ?_
          refine g_lald g1 ad81 rt81 (by omega) (by omega) (fun v50261 ev50261 lv50261 uv50261 => ?_)
          refine g_l2iG (fun v50262 ev50262 lv50262 uv50262 => ?_)
          refine ev_aload_n rfl ?_
          refine g_getp (r := 42) (c := 81) g1 ad42 (by decide) (by decide) rf42_64 ft12_64 ?_
          refine ev_iload rfl ?_
          refine ev_iconst ?_
          refine ev_iadd (r := (60 * a1 + a2 + 3 * x4 + 2)) (by unfold w32; omega) ?_
          refine g_lald g1 ad81 rt81 (by omega) (by omega) (fun v50263 ev50263 lv50263 uv50263 => ?_)
          refine g_l2iG (fun v50264 ev50264 lv50264 uv50264 => ?_)
          refine ev_in (d := 1) (a := 0) (b := 0) (cd' := c350_0) (m := 3) (L0 := [(0, v50260), (0, v50262), (0, v50264)]) (jcall_s (A := [(0, v50264), (0, v50262), (0, v50260)]) (S' := []) (by decide) rfl (Nat.le_of_ble_eq_true rfl)) (by decide) ml350 pp350 (Nat.le_of_ble_eq_true rfl) rfl (by decide) (by decide) ?_
          refine ev_iload_n rfl ?_
          refine ev_iconst ?_
          refine ev_sipush ?_
          refine ev_in (d := 0) (a := 0) (b := 0) (cd' := c242_0) (m := 3) (L0 := [(0, v50260), (0, 0), (0, 999)]) (jcall_s (A := [(0, 999), (0, 0), (0, v50260)]) (S' := []) (by decide) rfl (Nat.le_of_ble_eq_true rfl)) (by decide) ml242 pp242 (Nat.le_of_ble_eq_true rfl) rfl (by decide) (by decide) ?_
          refine ev_iload_n rfl ?_
          refine ev_iload_n rfl ?_
          refine ev_icmplt f242_14 (fun c50265 => ?_) (fun c50265 => ?_)
          · refine ev_iconst ?_
            refine ev_ret rfl (by decide) (by decide) ?_
            show jEv _ _ _ _ _ _ _ (_, [(0, v50260), (0, v50262), (0, v50264)], [(0, 0)], _, _, _)
            refine ev_ifeq f350_35 (fun c50266 => ?_) (fun c50266 => absurd c50266 (by omega))
            refine ev_iconst ?_
            refine ev_ret rfl (by decide) (by decide) ?_
            show jEv _ _ _ _ _ _ _ (_, [(2, 42), (0, a1), (0, a2), (0, a3), (0, x4), (1, (a2 + 3 * x4)), (9, 0), (0, (60 * a1 + a2 + 3 * x4))], [(0, 0)], _, _, _)
            refine ev_ifne f352_148 (fun c50267 => absurd c50267 (by omega)) (fun c50267 => ?_)
            refine ev_iload rfl ?_
            exact ev_ret rfl (by decide) (by decide) ⟨_, rfl, by omega, by omega, g1, k1⟩
          · refine ev_iload_n rfl ?_
            refine ev_iload_n rfl ?_
            refine ev_icmpgt f242_14 (fun c50268 => ?_) (fun c50268 => ?_)
            · refine ev_iconst ?_
              refine ev_ret rfl (by decide) (by decide) ?_
              show jEv _ _ _ _ _ _ _ (_, [(0, v50260), (0, v50262), (0, v50264)], [(0, 0)], _, _, _)
              refine ev_ifeq f350_35 (fun c50269 => ?_) (fun c50269 => absurd c50269 (by omega))
              refine ev_iconst ?_
              refine ev_ret rfl (by decide) (by decide) ?_
              show jEv _ _ _ _ _ _ _ (_, [(2, 42), (0, a1), (0, a2), (0, a3), (0, x4), (1, (a2 + 3 * x4)), (9, 0), (0, (60 * a1 + a2 + 3 * x4))], [(0, 0)], _, _, _)
              refine ev_ifne f352_148 (fun c50270 => absurd c50270 (by omega)) (fun c50270 => ?_)
              refine ev_iload rfl ?_
              exact ev_ret rfl (by decide) (by decide) ⟨_, rfl, by omega, by omega, g1, k1⟩
            · refine ev_iconst ?_
              refine ev_goto f242_15 ?_
              refine ev_ret rfl (by decide) (by decide) ?_
              show jEv _ _ _ _ _ _ _ (_, [(0, v50260), (0, v50262), (0, v50264)], [(0, 1)], _, _, _)
              refine ev_ifeq f350_35 (fun c50271 => absurd c50271 (by omega)) (fun c50271 => ?_)
              refine ev_iload_n rfl ?_
              refine ev_iconst ?_
              refine ev_bipush ?_
              refine ev_in (d := 0) (a := 0) (b := 0) (cd' := c242_0) (m := 3) (L0 := [(0, v50262), (0, 0), (0, 100)]) (jcall_s (A := [(0, 100), (0, 0), (0, v50262)]) (S' := []) (by decide) rfl (Nat.le_of_ble_eq_true rfl)) (by decide) ml242 pp242 (Nat.le_of_ble_eq_true rfl) rfl (by decide) (by decide) ?_
              refine ev_iload_n rfl ?_
              refine ev_iload_n rfl ?_
              refine ev_icmplt f242_14 (fun c50272 => ?_) (fun c50272 => ?_)
              · refine ev_iconst ?_
                refine ev_ret rfl (by decide) (by decide) ?_
                show jEv _ _ _ _ _ _ _ (_, [(0, v50260), (0, v50262), (0, v50264)], [(0, 0)], _, _, _)
                refine ev_ifeq f350_35 (fun c50273 => ?_) (fun c50273 => absurd c50273 (by omega))
                refine ev_iconst ?_
                refine ev_ret rfl (by decide) (by decide) ?_
                show jEv _ _ _ _ _ _ _ (_, [(2, 42), (0, a1), (0, a2), (0, a3), (0, x4), (1, (a2 + 3 * x4)), (9, 0), (0, (60 * a1 + a2 + 3 * x4))], [(0, 0)], _, _, _)
                refine ev_ifne f352_148 (fun c50274 => absurd c50274 (by omega)) (fun c50274 => ?_)
                refine ev_iload rfl ?_
                exact ev_ret rfl (by decide) (by decide) ⟨_, rfl, by omega, by omega, g1, k1⟩
              · refine ev_iload_n rfl ?_
                refine ev_iload_n rfl ?_
                refine ev_icmpgt f242_14 (fun c50275 => ?_) (fun c50275 => ?_)
                · refine ev_iconst ?_
                  refine ev_ret rfl (by decide) (by decide) ?_
                  show jEv _ _ _ _ _ _ _ (_, [(0, v50260), (0, v50262), (0, v50264)], [(0, 0)], _, _, _)
                  refine ev_ifeq f350_35 (fun c50276 => ?_) (fun c50276 => absurd c50276 (by omega))
                  refine ev_iconst ?_
                  refine ev_ret rfl (by decide) (by decide) ?_
                  show jEv _ _ _ _ _ _ _ (_, [(2, 42), (0, a1), (0, a2), (0, a3), (0, x4), (1, (a2 + 3 * x4)), (9, 0), (0, (60 * a1 + a2 + 3 * x4))], [(0, 0)], _, _, _)
                  refine ev_ifne f352_148 (fun c50277 => absurd c50277 (by omega)) (fun c50277 => ?_)
                  refine ev_iload rfl ?_
                  exact ev_ret rfl (by decide) (by decide) ⟨_, rfl, by omega, by omega, g1, k1⟩
                · refine ev_iconst ?_
                  refine ev_goto f242_15 ?_
                  refine ev_ret rfl (by decide) (by decide) ?_
                  show jEv _ _ _ _ _ _ _ (_, [(0, v50260), (0, v50262), (0, v50264)], [(0, 1)], _, _, _)
                  refine ev_ifeq f350_35 (fun c50278 => absurd c50278 (by omega)) (fun c50278 => ?_)
                  refine ev_iload_n rfl ?_
                  refine ev_iconst ?_
                  refine ev_bipush ?_
                  refine ev_in (d := 0) (a := 0) (b := 0) (cd' := c242_0) (m := 3) (L0 := [(0, v50264), (0, 0), (0, 99)]) (jcall_s (A := [(0, 99), (0, 0), (0, v50264)]) (S' := []) (by decide) rfl (Nat.le_of_ble_eq_true rfl)) (by decide) ml242 pp242 (Nat.le_of_ble_eq_true rfl) rfl (by decide) (by decide) ?_
                  refine ev_iload_n rfl ?_
                  refine ev_iload_n rfl ?_
                  refine ev_icmplt f242_14 (fun c50279 => ?_) (fun c50279 => ?_)
                  · refine ev_iconst ?_
                    refine ev_ret rfl (by decide) (by decide) ?_
                    show jEv _ _ _ _ _ _ _ (_, [(0, v50260), (0, v50262), (0, v50264)], [(0, 0)], _, _, _)
                    refine ev_ifeq f350_35 (fun c50280 => ?_) (fun c50280 => absurd c50280 (by omega))
                    refine ev_iconst ?_
                    refine ev_ret rfl (by decide) (by decide) ?_
                    show jEv _ _ _ _ _ _ _ (_, [(2, 42), (0, a1), (0, a2), (0, a3), (0, x4), (1, (a2 + 3 * x4)), (9, 0), (0, (60 * a1 + a2 + 3 * x4))], [(0, 0)], _, _, _)
                    refine ev_ifne f352_148 (fun c50281 => absurd c50281 (by omega)) (fun c50281 => ?_)
                    refine ev_iload rfl ?_
                    exact ev_ret rfl (by decide) (by decide) ⟨_, rfl, by omega, by omega, g1, k1⟩
                  · refine ev_iload_n rfl ?_
                    refine ev_iload_n rfl ?_
                    refine ev_icmpgt f242_14 (fun c50282 => ?_) (fun c50282 => ?_)
                    · refine ev_iconst ?_
                      refine ev_ret rfl (by decide) (by decide) ?_
                      show jEv _ _ _ _ _ _ _ (_, [(0, v50260), (0, v50262), (0, v50264)], [(0, 0)], _, _, _)
                      refine ev_ifeq f350_35 (fun c50283 => ?_) (fun c50283 => absurd c50283 (by omega))
                      refine ev_iconst ?_
                      refine ev_ret rfl (by decide) (by decide) ?_
                      show jEv _ _ _ _ _ _ _ (_, [(2, 42), (0, a1), (0, a2), (0, a3), (0, x4), (1, (a2 + 3 * x4)), (9, 0), (0, (60 * a1 + a2 + 3 * x4))], [(0, 0)], _, _, _)
                      refine ev_ifne f352_148 (fun c50284 => absurd c50284 (by omega)) (fun c50284 => ?_)
                      refine ev_iload rfl ?_
                      exact ev_ret rfl (by decide) (by decide) ⟨_, rfl, by omega, by omega, g1, k1⟩
                    · refine ev_iconst ?_
                      refine ev_goto f242_15 ?_
                      refine ev_ret rfl (by decide) (by decide) ?_
                      show jEv _ _ _ _ _ _ _ (_, [(0, v50260), (0, v50262), (0, v50264)], [(0, 1)], _, _, _)
                      refine ev_ifeq f350_35 (fun c50285 => absurd c50285 (by omega)) (fun c50285 => ?_)
                      refine ev_iconst ?_
                      refine ev_goto f350_36 ?_
                      refine ev_ret rfl (by decide) (by decide) ?_
                      show jEv _ _ _ _ _ _ _ (_, [(2, 42), (0, a1), (0, a2), (0, a3), (0, x4), (1, (a2 + 3 * x4)), (9, 0), (0, (60 * a1 + a2 + 3 * x4))], [(0, 1)], _, _, _)
                      refine ev_ifne f352_148 (fun c50286 => ?_) (fun c50286 => absurd c50286 (by omega))
                      refine ev_aload_n rfl ?_
                      refine g_getp (r := 42) (c := 74) g1 ad42 (by decide) (by decide) rf42_56 ft12_56 ?_
                      refine ev_iload rfl ?_
                      refine ev_aload_n rfl ?_
                      refine g_getp (r := 42) (c := 81) g1 ad42 (by decide) (by decide) rf42_64 ft12_64 ?_
                      refine ev_iload rfl ?_
                      refine g_laldv (v := v50259) g1 ad81 (by omega) (by omega) (ev50259) ?_
                      refine g_l2iG (fun v50287 ev50287 lv50287 uv50287 => ?_)
                      obtain rfl : v50260 = v50287 := by omega
                      refine g_iast g1 ad74 rt74 (fun _ => rfl) (by omega) (by omega) (by omega) (by omega) (fun h50288 e50288 g50288 => ?_)
                      have k50288 := k1.wr e50288 rfl
                      refine ev_aload_n rfl ?_
                      refine g_getp (r := 42) (c := 75) g50288 ad42 (by decide) (by decide) rf42_57 ft12_57 ?_
                      refine ev_iload rfl ?_
                      refine ev_aload_n rfl ?_
                      refine g_getp (r := 42) (c := 81) g50288 ad42 (by decide) (by decide) rf42_64 ft12_64 ?_
                      refine ev_iload rfl ?_
                      refine ev_iconst ?_
                      refine ev_iadd (r := (60 * a1 + a2 + 3 * x4 + 1)) (by unfold w32; omega) ?_
                      refine g_laldv (v := v50261) g50288 ad81 (by omega) (by omega) (((jw_ne e50288 (Or.inl (by decide))).trans ev50261)) ?_
                      refine g_l2iG (fun v50289 ev50289 lv50289 uv50289 => ?_)
                      obtain rfl : v50262 = v50289 := by omega
                      refine g_iast g50288 ad75 rt75 (fun _ => rfl) (by omega) (by omega) (by omega) (by omega) (fun h50290 e50290 g50290 => ?_)
                      have k50290 := k50288.wr e50290 rfl
                      refine ev_aload_n rfl ?_
                      refine g_getp (r := 42) (c := 76) g50290 ad42 (by decide) (by decide) rf42_58 ft12_58 ?_
                      refine ev_iload rfl ?_
                      refine ev_aload_n rfl ?_
                      refine g_getp (r := 42) (c := 81) g50290 ad42 (by decide) (by decide) rf42_64 ft12_64 ?_
                      refine ev_iload rfl ?_
                      refine ev_iconst ?_
                      refine ev_iadd (r := (60 * a1 + a2 + 3 * x4 + 2)) (by unfold w32; omega) ?_
                      refine g_laldv (v := v50263) g50290 ad81 (by omega) (by omega) (((jw_ne e50290 (Or.inl (by decide))).trans ((jw_ne e50288 (Or.inl (by decide))).trans ev50263))) ?_
                      refine g_l2iG (fun v50291 ev50291 lv50291 uv50291 => ?_)
                      obtain rfl : v50264 = v50291 := by omega
                      refine g_iast g50290 ad76 rt76 (fun _ => rfl) (by omega) (by omega) (by omega) (by omega) (fun h50292 e50292 g50292 => ?_)
                      have k50292 := k50290.wr e50292 rfl
                      refine ev_iinc (w := (x4 + 1)) (L' := [(2, 42), (0, a1), (0, a2), (0, a3), (0, (x4 + 1)), (1, (a2 + 3 * x4)), (9, 0), (0, (60 * a1 + a2 + 3 * x4))]) rfl (by unfold w32; omega) rfl ?_
                      refine ev_goto f352_58 ?_
                      exact ih _ _ _ _ g50292 k50292 (by omega) (by omega) (by omega) (by omega) (by omega) (by omega) (by omega) (by omega) (by omega)
        · have c50258b := jcmpL_ltN c50258
          refine ev_iload rfl ?_
          exact ev_ret rfl (by decide) (by decide) ⟨_, rfl, by omega, by omega, g1, k1⟩
set_option maxHeartbeats 4000000 in
theorem s352 {G : GH} {h : JH} (g : Gd G h) {a1 : Int} (la1 : (-2147483648) ≤ a1) (ua1 : a1 ≤ 2147483647) {a2 : Int} (la2 : (-2147483648) ≤ a2) (ua2 : a2 ≤ 2147483647) {a3 : Int} (la3 : (-2147483648) ≤ a3) (ua3 : a3 ≤ 2147483647) : jOk 3 0 0 352 [(2, 42), (0, a1), (0, a2), (0, a3)] h (PI G [(74, 0), (75, 0), (76, 0)] h 0 (-12) 20) := by
  refine ⟨by decide, by rw [ml352]; exact Nat.le_of_ble_eq_true rfl, ?_⟩
  rw [ml352, pp352]
  show jEv _ none _ c352_0 0 0 _ (c352_0, [(2, 42), (0, a1), (0, a2), (0, a3), (9, 0), (9, 0), (9, 0), (9, 0)], [], h, 0, 0)
  have k0 := Kp.rf [(74, 0), (75, 0), (76, 0)] h
  refine ev_iload_n rfl ?_
  refine ev_in (d := 1) (a := 0) (b := 0) (cd' := c370_0) (m := 1) (L0 := [(0, a1)]) (jcall_s (A := [(0, a1)]) (S' := []) (by decide) rfl (Nat.le_of_ble_eq_true rfl)) (by decide) ml370 pp370 (Nat.le_of_ble_eq_true rfl) rfl (by decide) (by decide) ?_
  refine ev_iload_n rfl ?_
  refine ev_iconst ?_
  refine ev_iconst ?_
  refine ev_in (d := 0) (a := 0) (b := 0) (cd' := c242_0) (m := 3) (L0 := [(0, a1), (0, 0), (0, 5)]) (jcall_s (A := [(0, 5), (0, 0), (0, a1)]) (S' := []) (by decide) rfl (Nat.le_of_ble_eq_true rfl)) (by decide) ml242 pp242 (Nat.le_of_ble_eq_true rfl) rfl (by decide) (by decide) ?_
  refine ev_iload_n rfl ?_
  refine ev_iload_n rfl ?_
  refine ev_icmplt f242_14 (fun c50293 => ?_) (fun c50293 => ?_)
  · refine ev_iconst ?_
    refine ev_ret rfl (by decide) (by decide) ?_
    show jEv _ _ _ _ _ _ _ (_, [(0, a1)], [(0, 0)], _, _, _)
    refine ev_ret rfl (by decide) (by decide) ?_
    show jEv _ _ _ _ _ _ _ (_, [(2, 42), (0, a1), (0, a2), (0, a3), (9, 0), (9, 0), (9, 0), (9, 0)], [(0, 0)], _, _, _)
    refine ev_ifeq f352_17 (fun c50294 => ?_) (fun c50294 => absurd c50294 (by omega))
    refine ev_iconst ?_
    exact ev_ret rfl (by decide) (by decide) ⟨_, rfl, by omega, by omega, g, k0⟩
  · refine ev_iload_n rfl ?_
    refine ev_iload_n rfl ?_
    refine ev_icmpgt f242_14 (fun c50295 => ?_) (fun c50295 => ?_)
    · refine ev_iconst ?_
      refine ev_ret rfl (by decide) (by decide) ?_
      show jEv _ _ _ _ _ _ _ (_, [(0, a1)], [(0, 0)], _, _, _)
      refine ev_ret rfl (by decide) (by decide) ?_
      show jEv _ _ _ _ _ _ _ (_, [(2, 42), (0, a1), (0, a2), (0, a3), (9, 0), (9, 0), (9, 0), (9, 0)], [(0, 0)], _, _, _)
      refine ev_ifeq f352_17 (fun c50296 => ?_) (fun c50296 => absurd c50296 (by omega))
      refine ev_iconst ?_
      exact ev_ret rfl (by decide) (by decide) ⟨_, rfl, by omega, by omega, g, k0⟩
    · refine ev_iconst ?_
      refine ev_goto f242_15 ?_
      refine ev_ret rfl (by decide) (by decide) ?_
      show jEv _ _ _ _ _ _ _ (_, [(0, a1)], [(0, 1)], _, _, _)
      refine ev_ret rfl (by decide) (by decide) ?_
      show jEv _ _ _ _ _ _ _ (_, [(2, 42), (0, a1), (0, a2), (0, a3), (9, 0), (9, 0), (9, 0), (9, 0)], [(0, 1)], _, _, _)
      refine ev_ifeq f352_17 (fun c50297 => absurd c50297 (by omega)) (fun c50297 => ?_)
      refine ev_iload_n rfl ?_
      refine ev_iconst ?_
      refine ev_bipush ?_
      refine ev_in (d := 1) (a := 0) (b := 0) (cd' := c242_0) (m := 3) (L0 := [(0, a3), (0, 1), (0, 20)]) (jcall_s (A := [(0, 20), (0, 1), (0, a3)]) (S' := []) (by decide) rfl (Nat.le_of_ble_eq_true rfl)) (by decide) ml242 pp242 (Nat.le_of_ble_eq_true rfl) rfl (by decide) (by decide) ?_
      refine ev_iload_n rfl ?_
      refine ev_iload_n rfl ?_
      refine ev_icmplt f242_14 (fun c50298 => ?_) (fun c50298 => ?_)
      · refine ev_iconst ?_
        refine ev_ret rfl (by decide) (by decide) ?_
        show jEv _ _ _ _ _ _ _ (_, [(2, 42), (0, a1), (0, a2), (0, a3), (9, 0), (9, 0), (9, 0), (9, 0)], [(0, 0)], _, _, _)
        refine ev_ifne f352_19 (fun c50299 => absurd c50299 (by omega)) (fun c50299 => ?_)
        refine ev_iconst ?_
        exact ev_ret rfl (by decide) (by decide) ⟨_, rfl, by omega, by omega, g, k0⟩
      · refine ev_iload_n rfl ?_
        refine ev_iload_n rfl ?_
        refine ev_icmpgt f242_14 (fun c50300 => ?_) (fun c50300 => ?_)
        · refine ev_iconst ?_
          refine ev_ret rfl (by decide) (by decide) ?_
          show jEv _ _ _ _ _ _ _ (_, [(2, 42), (0, a1), (0, a2), (0, a3), (9, 0), (9, 0), (9, 0), (9, 0)], [(0, 0)], _, _, _)
          refine ev_ifne f352_19 (fun c50301 => absurd c50301 (by omega)) (fun c50301 => ?_)
          refine ev_iconst ?_
          exact ev_ret rfl (by decide) (by decide) ⟨_, rfl, by omega, by omega, g, k0⟩
        · refine ev_iconst ?_
          refine ev_goto f242_15 ?_
          refine ev_ret rfl (by decide) (by decide) ?_
          show jEv _ _ _ _ _ _ _ (_, [(2, 42), (0, a1), (0, a2), (0, a3), (9, 0), (9, 0), (9, 0), (9, 0)], [(0, 1)], _, _, _)
          refine ev_ifne f352_19 (fun c50302 => ?_) (fun c50302 => absurd c50302 (by omega))
          refine ev_aload_n rfl ?_
          refine g_getp (r := 42) (c := 79) g ad42 (by decide) (by decide) rf42_62 ft12_62 ?_
          refine ev_iload_n rfl ?_
          refine g_iald g ad79 rt79 (by omega) (by omega) (fun v50303 ev50303 lv50303 uv50303 => ?_)
          refine ev_iconst ?_
          refine ev_icmpeq f352_43 (fun c50304 => ?_) (fun c50304 => ?_)
          · refine ev_aload_n rfl ?_
            refine g_getp (r := 42) (c := 79) g ad42 (by decide) (by decide) rf42_62 ft12_62 ?_
            refine ev_iload_n rfl ?_
            refine g_ialdv (v := v50303) g ad79 (by omega) (by omega) (ev50303) ?_
            refine ev_iconst ?_
            refine ev_icmpne f352_55 (fun c50305 => absurd c50305 (by omega)) (fun c50305 => ?_)
            refine ev_iconst ?_
            exact ev_ret rfl (by decide) (by decide) ⟨_, rfl, by omega, by omega, g, k0⟩
          · refine ev_aload_n rfl ?_
            refine g_getp (r := 42) (c := 79) g ad42 (by decide) (by decide) rf42_62 ft12_62 ?_
            refine ev_iload_n rfl ?_
            refine g_ialdv (v := v50303) g ad79 (by omega) (by omega) (ev50303) ?_
            refine ev_bipush ?_
            refine ev_icmpeq f352_43 (fun c50306 => ?_) (fun c50306 => ?_)
            · refine ev_aload_n rfl ?_
              refine g_getp (r := 42) (c := 79) g ad42 (by decide) (by decide) rf42_62 ft12_62 ?_
              refine ev_iload_n rfl ?_
              refine g_ialdv (v := v50303) g ad79 (by omega) (by omega) (ev50303) ?_
              refine ev_iconst ?_
              refine ev_icmpne f352_55 (fun c50307 => ?_) (fun c50307 => absurd c50307 (by omega))
              refine ev_iconst ?_
              refine ev_istore (L' := [(2, 42), (0, a1), (0, a2), (0, a3), (0, 0), (9, 0), (9, 0), (9, 0)]) (Nat.le_of_ble_eq_true rfl) rfl ?_
              exact (s352_l la1 ua1 la2 ua2 la3 ua3 42) _ _ _ _ g k0 (by omega) (by omega) (by omega) (by omega) (by omega) (by omega) (by omega) (by omega) (by omega)
            · refine ev_bipush ?_
              exact ev_ret rfl (by decide) (by decide) ⟨_, rfl, by omega, by omega, g, k0⟩
/-! 353 waits -/
set_option maxHeartbeats 4000000 in
theorem s353_l {G : GH} {h : JH} {a1 : Int} (la1 : (-2147483648) ≤ a1) (ua1 : a1 ≤ 2147483647) {a2 : Int} (la2 : (-2147483648) ≤ a2) (ua2 : a2 ≤ 2147483647) {a3 : Int} (la3 : (-2147483648) ≤ a3) (ua3 : a3 ≤ 2147483647) : ∀ N : Nat, (∀ (h1 : JH) (x4 x5 x6 x8 x10 : Int) (j11 j13 : AV), Gd G h1 → Kp [] h h1 → 0 ≤ a1 → a1 ≤ 1999 → (-999) ≤ a2 → a2 ≤ 999 → 0 ≤ a3 → a3 ≤ 1 → 0 ≤ x4 → x4 ≤ 19 → 1 ≤ x5 → x5 ≤ 20 → (-9223372036854775808) ≤ x6 → x6 ≤ 9223372036854775807 → (-9223372036854775808) ≤ x8 → x8 ≤ 9223372036854775807 → (-1) ≤ x10 → x10 ≤ 19 → (x10 + 1) < N → jEv (jOk 1) none (fun _ => 0) c353_0 0 0 (PI G [] h 1 (-9223372036854775808) 9223372036854775807) (c353_77, [(2, 42), (0, a1), (0, a2), (0, a3), (0, x4), (0, x5), (1, x6), (9, 0), (1, x8), (9, 0), (0, x10), j11, (9, 0), j13, (9, 0)], [], h1, 0, 0)) := by
  intro N
  induction N with
  | zero => exact fun h1 x4 x5 x6 x8 x10 j11 j13 g1 k1 b0 b1 b2 b3 b4 b5 b6 b7 b8 b9 b10 b11 b12 b13 b14 b15 hm => absurd hm (by omega)
  | succ N ih =>
    show _
    intro h1 x4 x5 x6 x8 x10 j11 j13 g1 k1 b0 b1 b2 b3 b4 b5 b6 b7 b8 b9 b10 b11 b12 b13 b14 b15 hm
    refine ev_iload rfl ?_
    refine ev_iload rfl ?_
    refine ev_icmplt f353_172 (fun c50446 => ?_) (fun c50446 => ?_)
    · refine ev_iload_n rfl ?_
      refine ev_iconst ?_
      refine ev_icmpne f353_180 (fun c50447 => ?_) (fun c50447 => ?_)
      · refine ev_lload rfl ?_
        refine g_lnegG (fun v50448 ev50448 lv50448 uv50448 => ?_)
        refine ev_ldc2_w ?_
        refine ev_call (jcall_s (A := [(1, 1000000), (1, v50448)]) (S' := []) (by decide) rfl (Nat.le_of_ble_eq_true rfl)) (jOk_le (by decide) (s378 g1 (by omega) (by omega) (by omega) (by omega))) (by decide) (by decide) (fun w50449 h50449 q50449 => ?_)
        obtain ⟨v50450, rfl, lv50450, uv50450, g50449, kk50449⟩ := q50449
        have k50449 := k1.tr kk50449 (by decide)
        show jEv _ _ _ _ _ _ _ (_, [(2, 42), (0, a1), (0, a2), (0, a3), (0, x4), (0, x5), (1, x6), (9, 0), (1, x8), (9, 0), (0, x10), j11, (9, 0), j13, (9, 0)], [(1, v50450)], _, _, _)
        refine g_lnegG (fun v50451 ev50451 lv50451 uv50451 => ?_)
        refine ev_lstore (L' := [(2, 42), (0, a1), (0, a2), (0, a3), (0, x4), (0, x5), (1, x6), (9, 0), (1, x8), (9, 0), (1, v50451), (9, 0), (9, 0), j13, (9, 0)]) (Nat.le_of_ble_eq_true rfl) rfl ?_
        refine ev_lload rfl ?_
        refine ev_lconst ?_
        refine ev_lcmp ?_
        refine ev_ifge f353_203 (fun c50452 => ?_) (fun c50452 => ?_)
        · have c50452b := jcmpL_ge c50452
          refine ev_lload rfl ?_
          refine ev_ldc2_w ?_
          refine ev_lcmp ?_
          refine ev_ifle f353_218 (fun c50453 => ?_) (fun c50453 => ?_)
          · have c50453b := jcmpL_le c50453
            refine ev_lload rfl ?_
            exact ev_ret rfl (by decide) (by decide) ⟨_, rfl, by omega, by omega, g50449, k50449⟩
          · have c50453b := jcmpL_leN c50453
            refine ev_ldc2_w ?_
            refine ev_goto f353_220 ?_
            exact ev_ret rfl (by decide) (by decide) ⟨_, rfl, by omega, by omega, g50449, k50449⟩
        · have c50452b := jcmpL_geN c50452
          refine ev_lconst ?_
          refine ev_goto f353_220 ?_
          exact ev_ret rfl (by decide) (by decide) ⟨_, rfl, by omega, by omega, g50449, k50449⟩
      · refine ev_lload rfl ?_
        exact ev_ret rfl (by decide) (by decide) ⟨_, rfl, by omega, by omega, g1, k1⟩
    · refine ev_lload rfl ?_
      refine ev_ldc2_w ?_
      refine ev_aload_n rfl ?_
      refine g_getp (r := 42) (c := 76) g1 ad42 (by decide) (by decide) rf42_58 ft12_58 ?_
      refine ev_iload rfl ?_
      refine g_iald g1 ad76 rt76 (by omega) (by omega) (fun v50454 ev50454 lv50454 uv50454 => ?_)
      refine ev_i2l ?_
      refine ev_lmul (r := (1000000 * v50454)) (by unfold w64; omega) ?_
      refine g_lsubG (fun v50455 ev50455 lv50455 uv50455 => ?_)
      refine ev_lstore (L' := [(2, 42), (0, a1), (0, a2), (0, a3), (0, x4), (0, x5), (1, x6), (9, 0), (1, v50455), (9, 0), (0, x10), j11, (9, 0), j13, (9, 0)]) (Nat.le_of_ble_eq_true rfl) rfl ?_
      refine ev_ldc2_w ?_
      refine ev_aload_n rfl ?_
      refine g_getp (r := 42) (c := 74) g1 ad42 (by decide) (by decide) rf42_56 ft12_56 ?_
      refine ev_iload rfl ?_
      refine g_iald g1 ad74 rt74 (by omega) (by omega) (fun v50456 ev50456 lv50456 uv50456 => ?_)
      refine ev_i2l ?_
      refine ev_lmul (r := (1000000 * v50456)) (by unfold w64; omega) ?_
      refine ev_lstore (L' := [(2, 42), (0, a1), (0, a2), (0, a3), (0, x4), (0, x5), (1, x6), (9, 0), (1, v50455), (9, 0), (0, x10), (1, (1000000 * v50456)), (9, 0), j13, (9, 0)]) (Nat.le_of_ble_eq_true rfl) rfl ?_
      refine ev_lload rfl ?_
      refine ev_lload rfl ?_
      refine ev_lcmp ?_
      refine ev_ifle f353_128 (fun c50457 => ?_) (fun c50457 => ?_)
      · have c50457b := jcmpL_le c50457
        refine ev_lload rfl ?_
        refine ev_lstore (L' := [(2, 42), (0, a1), (0, a2), (0, a3), (0, x4), (0, x5), (1, x6), (9, 0), (1, v50455), (9, 0), (0, x10), (1, (1000000 * v50456)), (9, 0), (1, v50455), (9, 0)]) (Nat.le_of_ble_eq_true rfl) rfl ?_
        refine ev_aload_n rfl ?_
        refine g_getp (r := 42) (c := 75) g1 ad42 (by decide) (by decide) rf42_57 ft12_57 ?_
        refine ev_iload rfl ?_
        refine g_iald g1 ad75 rt75 (by omega) (by omega) (fun v50458 ev50458 lv50458 uv50458 => ?_)
        refine ev_i2l ?_
        refine ev_lload rfl ?_
        refine g_lmulG (fun v50459 ev50459 lv50459 uv50459 => ?_)
        refine ev_bipush ?_
        refine ev_aload_n rfl ?_
        refine g_getp (r := 42) (c := 75) g1 ad42 (by decide) (by decide) rf42_57 ft12_57 ?_
        refine ev_iload rfl ?_
        refine g_ialdv (v := v50458) g1 ad75 (by omega) (by omega) (ev50458) ?_
        refine ev_isub (r := ((-v50458) + 100)) (by unfold w32; omega) ?_
        refine ev_i2l ?_
        refine ev_lload rfl ?_
        refine g_lmulG (fun v50460 ev50460 lv50460 uv50460 => ?_)
        refine g_laddG (fun v50461 ev50461 lv50461 uv50461 => ?_)
        refine ev_ldc2_w ?_
        refine ev_call (jcall_s (A := [(1, 100), (1, v50461)]) (S' := []) (by decide) rfl (Nat.le_of_ble_eq_true rfl)) (jOk_le (by decide) (s378 g1 (by omega) (by omega) (by omega) (by omega))) (by decide) (by decide) (fun w50462 h50462 q50462 => ?_)
        obtain ⟨v50463, rfl, lv50463, uv50463, g50462, kk50462⟩ := q50462
        have k50462 := k1.tr kk50462 (by decide)
        show jEv _ _ _ _ _ _ _ (_, [(2, 42), (0, a1), (0, a2), (0, a3), (0, x4), (0, x5), (1, x6), (9, 0), (1, v50455), (9, 0), (0, x10), (1, (1000000 * v50456)), (9, 0), (1, v50455), (9, 0)], [(1, v50463)], _, _, _)
        refine ev_lstore (L' := [(2, 42), (0, a1), (0, a2), (0, a3), (0, x4), (0, x5), (1, v50463), (9, 0), (1, v50455), (9, 0), (0, x10), (1, (1000000 * v50456)), (9, 0), (1, v50455), (9, 0)]) (Nat.le_of_ble_eq_true rfl) rfl ?_
        refine ev_iinc (w := (x10 - 1)) (L' := [(2, 42), (0, a1), (0, a2), (0, a3), (0, x4), (0, x5), (1, v50463), (9, 0), (1, v50455), (9, 0), (0, (x10 - 1)), (1, (1000000 * v50456)), (9, 0), (1, v50455), (9, 0)]) rfl (by unfold w32; omega) rfl ?_
        refine ev_goto f353_77 ?_
        exact ih _ _ _ _ _ _ _ _ g50462 k50462 (by omega) (by omega) (by omega) (by omega) (by omega) (by omega) (by omega) (by omega) (by omega) (by omega) (by omega) (by omega) (by omega) (by omega) (by omega) (by omega) (by omega)
      · have c50457b := jcmpL_leN c50457
        refine ev_lload rfl ?_
        refine ev_goto f353_130 ?_
        refine ev_lstore (L' := [(2, 42), (0, a1), (0, a2), (0, a3), (0, x4), (0, x5), (1, x6), (9, 0), (1, v50455), (9, 0), (0, x10), (1, (1000000 * v50456)), (9, 0), (1, (1000000 * v50456)), (9, 0)]) (Nat.le_of_ble_eq_true rfl) rfl ?_
        refine ev_aload_n rfl ?_
        refine g_getp (r := 42) (c := 75) g1 ad42 (by decide) (by decide) rf42_57 ft12_57 ?_
        refine ev_iload rfl ?_
        refine g_iald g1 ad75 rt75 (by omega) (by omega) (fun v50464 ev50464 lv50464 uv50464 => ?_)
        refine ev_i2l ?_
        refine ev_lload rfl ?_
        refine g_lmulB (a := 100) (b := 999000000) (a' := 0) (b' := 0) (by omega) (by omega) (by omega) (by omega) (by decide) (lo := 0) (hi := 99900000000) (by decide) (by decide) (fun v50465 ev50465 lv50465 uv50465 => ?_)
        refine ev_bipush ?_
        refine ev_aload_n rfl ?_
        refine g_getp (r := 42) (c := 75) g1 ad42 (by decide) (by decide) rf42_57 ft12_57 ?_
        refine ev_iload rfl ?_
        refine g_ialdv (v := v50464) g1 ad75 (by omega) (by omega) (ev50464) ?_
        refine ev_isub (r := ((-v50464) + 100)) (by unfold w32; omega) ?_
        refine ev_i2l ?_
        refine ev_lload rfl ?_
        refine g_lmulG (fun v50466 ev50466 lv50466 uv50466 => ?_)
        refine g_laddG (fun v50467 ev50467 lv50467 uv50467 => ?_)
        refine ev_ldc2_w ?_
        refine ev_call (jcall_s (A := [(1, 100), (1, v50467)]) (S' := []) (by decide) rfl (Nat.le_of_ble_eq_true rfl)) (jOk_le (by decide) (s378 g1 (by omega) (by omega) (by omega) (by omega))) (by decide) (by decide) (fun w50468 h50468 q50468 => ?_)
        obtain ⟨v50469, rfl, lv50469, uv50469, g50468, kk50468⟩ := q50468
        have k50468 := k1.tr kk50468 (by decide)
        show jEv _ _ _ _ _ _ _ (_, [(2, 42), (0, a1), (0, a2), (0, a3), (0, x4), (0, x5), (1, x6), (9, 0), (1, v50455), (9, 0), (0, x10), (1, (1000000 * v50456)), (9, 0), (1, (1000000 * v50456)), (9, 0)], [(1, v50469)], _, _, _)
        refine ev_lstore (L' := [(2, 42), (0, a1), (0, a2), (0, a3), (0, x4), (0, x5), (1, v50469), (9, 0), (1, v50455), (9, 0), (0, x10), (1, (1000000 * v50456)), (9, 0), (1, (1000000 * v50456)), (9, 0)]) (Nat.le_of_ble_eq_true rfl) rfl ?_
        refine ev_iinc (w := (x10 - 1)) (L' := [(2, 42), (0, a1), (0, a2), (0, a3), (0, x4), (0, x5), (1, v50469), (9, 0), (1, v50455), (9, 0), (0, (x10 - 1)), (1, (1000000 * v50456)), (9, 0), (1, (1000000 * v50456)), (9, 0)]) rfl (by unfold w32; omega) rfl ?_
        refine ev_goto f353_77 ?_
        exact ih _ _ _ _ _ _ _ _ g50468 k50468 (by omega) (by omega) (by omega) (by omega) (by omega) (by omega) (by omega) (by omega) (by omega) (by omega) (by omega) (by omega) (by omega) (by omega) (by omega) (by omega) (by omega)
set_option maxHeartbeats 4000000 in
theorem s353 {G : GH} {h : JH} (g : Gd G h) {a1 : Int} (la1 : (-2147483648) ≤ a1) (ua1 : a1 ≤ 2147483647) {a2 : Int} (la2 : (-2147483648) ≤ a2) (ua2 : a2 ≤ 2147483647) {a3 : Int} (la3 : (-2147483648) ≤ a3) (ua3 : a3 ≤ 2147483647) : jOk 2 0 0 353 [(2, 42), (0, a1), (0, a2), (0, a3)] h (PI G [] h 1 (-9223372036854775808) 9223372036854775807) := by
  refine ⟨by decide, by rw [ml353]; exact Nat.le_of_ble_eq_true rfl, ?_⟩
  rw [ml353, pp353]
  show jEv _ none _ c353_0 0 0 _ (c353_0, [(2, 42), (0, a1), (0, a2), (0, a3), (9, 0), (9, 0), (9, 0), (9, 0), (9, 0), (9, 0), (9, 0), (9, 0), (9, 0), (9, 0), (9, 0)], [], h, 0, 0)
  have k0 := Kp.rf [] h
  refine ev_iload_n rfl ?_
  refine ev_bipush ?_
  rcases Int.lt_or_le (a1) 0 with c50470 | c50470
  · refine g_idivG (by omega) (fun v50471 ev50471 lv50471 uv50471 => ?_)
    refine ev_istore (L' := [(2, 42), (0, a1), (0, a2), (0, a3), (0, v50471), (9, 0), (9, 0), (9, 0), (9, 0), (9, 0), (9, 0), (9, 0), (9, 0), (9, 0), (9, 0)]) (Nat.le_of_ble_eq_true rfl) rfl ?_
    refine ev_iload_n rfl ?_
    refine ev_bipush ?_
    refine g_iremC (c := 100) rfl (by decide) (fun v50472 ev50472 lv50472 uv50472 => ?_)
    refine ev_istore (L' := [(2, 42), (0, a1), (0, a2), (0, a3), (0, v50471), (0, v50472), (9, 0), (9, 0), (9, 0), (9, 0), (9, 0), (9, 0), (9, 0), (9, 0), (9, 0)]) (Nat.le_of_ble_eq_true rfl) rfl ?_
    refine ev_iload_n rfl ?_
    refine ev_iflt f353_56 (fun c50473 => ?_) (fun c50473 => absurd c50473 (by omega))
    refine ev_ldc2_w ?_
    exact ev_ret rfl (by decide) (by decide) ⟨_, rfl, by omega, by omega, g, k0⟩
  · refine g_idivP (c := 100) rfl (by decide) (by omega) (by omega) (fun v50474 ev50474 lv50474 uv50474 => ?_)
    refine ev_istore (L' := [(2, 42), (0, a1), (0, a2), (0, a3), (0, v50474), (9, 0), (9, 0), (9, 0), (9, 0), (9, 0), (9, 0), (9, 0), (9, 0), (9, 0), (9, 0)]) (Nat.le_of_ble_eq_true rfl) rfl ?_
    refine ev_iload_n rfl ?_
    refine ev_bipush ?_
    refine g_iremP (c := 100) rfl (by decide) (by omega) (fun v50475 ev50475 lv50475 uv50475 wv50475 => ?_)
    refine ev_istore (L' := [(2, 42), (0, a1), (0, a2), (0, a3), (0, v50474), (0, v50475), (9, 0), (9, 0), (9, 0), (9, 0), (9, 0), (9, 0), (9, 0), (9, 0), (9, 0)]) (Nat.le_of_ble_eq_true rfl) rfl ?_
    refine ev_iload_n rfl ?_
    refine ev_iflt f353_56 (fun c50476 => absurd c50476 (by omega)) (fun c50476 => ?_)
    refine ev_iload rfl ?_
    refine ev_iconst ?_
    refine ev_bipush ?_
    refine ev_in (d := 0) (a := 0) (b := 0) (cd' := c242_0) (m := 3) (L0 := [(0, v50475), (0, 1), (0, 20)]) (jcall_s (A := [(0, 20), (0, 1), (0, v50475)]) (S' := []) (by decide) rfl (Nat.le_of_ble_eq_true rfl)) (by decide) ml242 pp242 (Nat.le_of_ble_eq_true rfl) rfl (by decide) (by decide) ?_
    refine ev_iload_n rfl ?_
    refine ev_iload_n rfl ?_
    refine ev_icmplt f242_14 (fun c50477 => ?_) (fun c50477 => ?_)
    · refine ev_iconst ?_
      refine ev_ret rfl (by decide) (by decide) ?_
      show jEv _ _ _ _ _ _ _ (_, [(2, 42), (0, a1), (0, a2), (0, a3), (0, v50474), (0, v50475), (9, 0), (9, 0), (9, 0), (9, 0), (9, 0), (9, 0), (9, 0), (9, 0), (9, 0)], [(0, 0)], _, _, _)
      refine ev_ifeq f353_56 (fun c50478 => ?_) (fun c50478 => absurd c50478 (by omega))
      refine ev_ldc2_w ?_
      exact ev_ret rfl (by decide) (by decide) ⟨_, rfl, by omega, by omega, g, k0⟩
    · refine ev_iload_n rfl ?_
      refine ev_iload_n rfl ?_
      refine ev_icmpgt f242_14 (fun c50479 => ?_) (fun c50479 => ?_)
      · refine ev_iconst ?_
        refine ev_ret rfl (by decide) (by decide) ?_
        show jEv _ _ _ _ _ _ _ (_, [(2, 42), (0, a1), (0, a2), (0, a3), (0, v50474), (0, v50475), (9, 0), (9, 0), (9, 0), (9, 0), (9, 0), (9, 0), (9, 0), (9, 0), (9, 0)], [(0, 0)], _, _, _)
        refine ev_ifeq f353_56 (fun c50480 => ?_) (fun c50480 => absurd c50480 (by omega))
        refine ev_ldc2_w ?_
        exact ev_ret rfl (by decide) (by decide) ⟨_, rfl, by omega, by omega, g, k0⟩
      · refine ev_iconst ?_
        refine ev_goto f242_15 ?_
        refine ev_ret rfl (by decide) (by decide) ?_
        show jEv _ _ _ _ _ _ _ (_, [(2, 42), (0, a1), (0, a2), (0, a3), (0, v50474), (0, v50475), (9, 0), (9, 0), (9, 0), (9, 0), (9, 0), (9, 0), (9, 0), (9, 0), (9, 0)], [(0, 1)], _, _, _)
        refine ev_ifeq f353_56 (fun c50481 => absurd c50481 (by omega)) (fun c50481 => ?_)
        refine ev_iload rfl ?_
        refine ev_iload rfl ?_
        refine ev_icmpge f353_56 (fun c50482 => ?_) (fun c50482 => ?_)
        · refine ev_ldc2_w ?_
          exact ev_ret rfl (by decide) (by decide) ⟨_, rfl, by omega, by omega, g, k0⟩
        · refine ev_iload_n rfl ?_
          refine ev_sipush ?_
          refine ev_sipush ?_
          refine ev_in (d := 0) (a := 0) (b := 0) (cd' := c242_0) (m := 3) (L0 := [(0, a2), (0, (-999)), (0, 999)]) (jcall_s (A := [(0, 999), (0, (-999)), (0, a2)]) (S' := []) (by decide) rfl (Nat.le_of_ble_eq_true rfl)) (by decide) ml242 pp242 (Nat.le_of_ble_eq_true rfl) rfl (by decide) (by decide) ?_
          refine ev_iload_n rfl ?_
          refine ev_iload_n rfl ?_
          refine ev_icmplt f242_14 (fun c50483 => ?_) (fun c50483 => ?_)
          · refine ev_iconst ?_
            refine ev_ret rfl (by decide) (by decide) ?_
            show jEv _ _ _ _ _ _ _ (_, [(2, 42), (0, a1), (0, a2), (0, a3), (0, v50474), (0, v50475), (9, 0), (9, 0), (9, 0), (9, 0), (9, 0), (9, 0), (9, 0), (9, 0), (9, 0)], [(0, 0)], _, _, _)
            refine ev_ifeq f353_56 (fun c50484 => ?_) (fun c50484 => absurd c50484 (by omega))
            refine ev_ldc2_w ?_
            exact ev_ret rfl (by decide) (by decide) ⟨_, rfl, by omega, by omega, g, k0⟩
          · refine ev_iload_n rfl ?_
            refine ev_iload_n rfl ?_
            refine ev_icmpgt f242_14 (fun c50485 => ?_) (fun c50485 => ?_)
            · refine ev_iconst ?_
              refine ev_ret rfl (by decide) (by decide) ?_
              show jEv _ _ _ _ _ _ _ (_, [(2, 42), (0, a1), (0, a2), (0, a3), (0, v50474), (0, v50475), (9, 0), (9, 0), (9, 0), (9, 0), (9, 0), (9, 0), (9, 0), (9, 0), (9, 0)], [(0, 0)], _, _, _)
              refine ev_ifeq f353_56 (fun c50486 => ?_) (fun c50486 => absurd c50486 (by omega))
              refine ev_ldc2_w ?_
              exact ev_ret rfl (by decide) (by decide) ⟨_, rfl, by omega, by omega, g, k0⟩
            · refine ev_iconst ?_
              refine ev_goto f242_15 ?_
              refine ev_ret rfl (by decide) (by decide) ?_
              show jEv _ _ _ _ _ _ _ (_, [(2, 42), (0, a1), (0, a2), (0, a3), (0, v50474), (0, v50475), (9, 0), (9, 0), (9, 0), (9, 0), (9, 0), (9, 0), (9, 0), (9, 0), (9, 0)], [(0, 1)], _, _, _)
              refine ev_ifeq f353_56 (fun c50487 => absurd c50487 (by omega)) (fun c50487 => ?_)
              refine ev_iload_n rfl ?_
              refine ev_iconst ?_
              refine ev_iconst ?_
              refine ev_in (d := 0) (a := 0) (b := 0) (cd' := c242_0) (m := 3) (L0 := [(0, a3), (0, 0), (0, 1)]) (jcall_s (A := [(0, 1), (0, 0), (0, a3)]) (S' := []) (by decide) rfl (Nat.le_of_ble_eq_true rfl)) (by decide) ml242 pp242 (Nat.le_of_ble_eq_true rfl) rfl (by decide) (by decide) ?_
              refine ev_iload_n rfl ?_
              refine ev_iload_n rfl ?_
              refine ev_icmplt f242_14 (fun c50488 => ?_) (fun c50488 => ?_)
              · refine ev_iconst ?_
                refine ev_ret rfl (by decide) (by decide) ?_
                show jEv _ _ _ _ _ _ _ (_, [(2, 42), (0, a1), (0, a2), (0, a3), (0, v50474), (0, v50475), (9, 0), (9, 0), (9, 0), (9, 0), (9, 0), (9, 0), (9, 0), (9, 0), (9, 0)], [(0, 0)], _, _, _)
                refine ev_ifne f353_60 (fun c50489 => absurd c50489 (by omega)) (fun c50489 => ?_)
                refine ev_ldc2_w ?_
                exact ev_ret rfl (by decide) (by decide) ⟨_, rfl, by omega, by omega, g, k0⟩
              · refine ev_iload_n rfl ?_
                refine ev_iload_n rfl ?_
                refine ev_icmpgt f242_14 (fun c50490 => ?_) (fun c50490 => ?_)
                · refine ev_iconst ?_
                  refine ev_ret rfl (by decide) (by decide) ?_
                  show jEv _ _ _ _ _ _ _ (_, [(2, 42), (0, a1), (0, a2), (0, a3), (0, v50474), (0, v50475), (9, 0), (9, 0), (9, 0), (9, 0), (9, 0), (9, 0), (9, 0), (9, 0), (9, 0)], [(0, 0)], _, _, _)
                  refine ev_ifne f353_60 (fun c50491 => absurd c50491 (by omega)) (fun c50491 => ?_)
                  refine ev_ldc2_w ?_
                  exact ev_ret rfl (by decide) (by decide) ⟨_, rfl, by omega, by omega, g, k0⟩
                · refine ev_iconst ?_
                  refine ev_goto f242_15 ?_
                  refine ev_ret rfl (by decide) (by decide) ?_
                  show jEv _ _ _ _ _ _ _ (_, [(2, 42), (0, a1), (0, a2), (0, a3), (0, v50474), (0, v50475), (9, 0), (9, 0), (9, 0), (9, 0), (9, 0), (9, 0), (9, 0), (9, 0), (9, 0)], [(0, 1)], _, _, _)
                  refine ev_ifne f353_60 (fun c50492 => ?_) (fun c50492 => absurd c50492 (by omega))
                  refine ev_ldc2_w ?_
                  refine ev_iload_n rfl ?_
                  refine ev_i2l ?_
                  refine ev_lmul (r := (1000000 * a2)) (by unfold w64; omega) ?_
                  refine ev_lstore (L' := [(2, 42), (0, a1), (0, a2), (0, a3), (0, v50474), (0, v50475), (1, (1000000 * a2)), (9, 0), (9, 0), (9, 0), (9, 0), (9, 0), (9, 0), (9, 0), (9, 0)]) (Nat.le_of_ble_eq_true rfl) rfl ?_
                  refine ev_lconst ?_
                  refine ev_lstore (L' := [(2, 42), (0, a1), (0, a2), (0, a3), (0, v50474), (0, v50475), (1, (1000000 * a2)), (9, 0), (1, 0), (9, 0), (9, 0), (9, 0), (9, 0), (9, 0), (9, 0)]) (Nat.le_of_ble_eq_true rfl) rfl ?_
                  refine ev_iload rfl ?_
                  refine ev_iconst ?_
                  refine ev_isub (r := (v50475 - 1)) (by unfold w32; omega) ?_
                  refine ev_istore (L' := [(2, 42), (0, a1), (0, a2), (0, a3), (0, v50474), (0, v50475), (1, (1000000 * a2)), (9, 0), (1, 0), (9, 0), (0, (v50475 - 1)), (9, 0), (9, 0), (9, 0), (9, 0)]) (Nat.le_of_ble_eq_true rfl) rfl ?_
                  exact (s353_l la1 ua1 la2 ua2 la3 ua3 42) _ _ _ _ _ _ _ _ g k0 (by omega) (by omega) (by omega) (by omega) (by omega) (by omega) (by omega) (by omega) (by omega) (by omega) (by omega) (by omega) (by omega) (by omega) (by omega) (by omega) (by omega)
/-! 285 feeling -/
set_option maxHeartbeats 4000000 in
theorem s285 {G : GH} {h : JH} (g : Gd G h) {a1 : Int} (la1 : (-2147483648) ≤ a1) (ua1 : a1 ≤ 2147483647) {a2 : Int} (la2 : (-2147483648) ≤ a2) (ua2 : a2 ≤ 2147483647) : jOk 2 0 0 285 [(2, 42), (0, a1), (0, a2)] h (PI G [(42, 29), (60, 0), (61, 0)] h 0 (-3) 19) := by
  refine ⟨by decide, by rw [ml285]; exact Nat.le_of_ble_eq_true rfl, ?_⟩
  rw [ml285, pp285]
  show jEv _ none _ c285_0 0 0 _ (c285_0, [(2, 42), (0, a1), (0, a2)], [], h, 0, 0)
  have k0 := Kp.rf [(42, 29), (60, 0), (61, 0)] h
  refine ev_iload_n rfl ?_
  refine ev_iconst ?_
  refine ev_iconst ?_
  refine ev_in (d := 0) (a := 0) (b := 0) (cd' := c242_0) (m := 3) (L0 := [(0, a1), (0, 0), (0, 5)]) (jcall_s (A := [(0, 5), (0, 0), (0, a1)]) (S' := []) (by decide) rfl (Nat.le_of_ble_eq_true rfl)) (by decide) ml242 pp242 (Nat.le_of_ble_eq_true rfl) rfl (by decide) (by decide) ?_
  refine ev_iload_n rfl ?_
  refine ev_iload_n rfl ?_
  refine ev_icmplt f242_14 (fun c50539 => ?_) (fun c50539 => ?_)
  · refine ev_iconst ?_
    refine ev_ret rfl (by decide) (by decide) ?_
    show jEv _ _ _ _ _ _ _ (_, [(2, 42), (0, a1), (0, a2)], [(0, 0)], _, _, _)
    refine ev_ifeq f285_24 (fun c50540 => ?_) (fun c50540 => absurd c50540 (by omega))
    refine ev_iconst ?_
    exact ev_ret rfl (by decide) (by decide) ⟨_, rfl, by omega, by omega, g, k0⟩
  · refine ev_iload_n rfl ?_
    refine ev_iload_n rfl ?_
    refine ev_icmpgt f242_14 (fun c50541 => ?_) (fun c50541 => ?_)
    · refine ev_iconst ?_
      refine ev_ret rfl (by decide) (by decide) ?_
      show jEv _ _ _ _ _ _ _ (_, [(2, 42), (0, a1), (0, a2)], [(0, 0)], _, _, _)
      refine ev_ifeq f285_24 (fun c50542 => ?_) (fun c50542 => absurd c50542 (by omega))
      refine ev_iconst ?_
      exact ev_ret rfl (by decide) (by decide) ⟨_, rfl, by omega, by omega, g, k0⟩
    · refine ev_iconst ?_
      refine ev_goto f242_15 ?_
      refine ev_ret rfl (by decide) (by decide) ?_
      show jEv _ _ _ _ _ _ _ (_, [(2, 42), (0, a1), (0, a2)], [(0, 1)], _, _, _)
      refine ev_ifeq f285_24 (fun c50543 => absurd c50543 (by omega)) (fun c50543 => ?_)
      refine ev_iload_n rfl ?_
      refine ev_iconst ?_
      refine ev_icmplt f285_26 (fun c50544 => ?_) (fun c50544 => ?_)
      · refine ev_aload_n rfl ?_
        obtain ⟨v50545, ev50545, lv50545, uv50545⟩ := g.rd ad42 (show 28 < 66 by decide) rf42_28
        refine g_getv (r := 42) (v := v50545) g ad42 (by decide) ft12_28 ev50545 ?_
        refine ev_bipush ?_
        refine ev_icmpne f285_38 (fun c50546 => ?_) (fun c50546 => ?_)
        · refine ev_aload_n rfl ?_
          refine g_getp (r := 42) (c := 60) g ad42 (by decide) (by decide) rf42_29 ft12_29 ?_
          refine ev_aload_n rfl ?_
          refine g_getv (r := 42) (v := v50545) g ad42 (by decide) ft12_28 (ev50545) ?_
          refine ev_iload_n rfl ?_
          refine g_iast g ad60 rt60 (fun _ => rfl) (by omega) (by omega) (by omega) (by omega) (fun h50547 e50547 g50547 => ?_)
          have k50547 := k0.wr e50547 rfl
          refine ev_aload_n rfl ?_
          refine g_getp (r := 42) (c := 61) g50547 ad42 (by decide) (by decide) rf42_30 ft12_30 ?_
          refine ev_aload_n rfl ?_
          refine g_getv (r := 42) (v := v50545) g50547 ad42 (by decide) ft12_28 (((jw_ne e50547 (Or.inl (by decide))).trans ev50545)) ?_
          refine ev_iload_n rfl ?_
          refine ev_iconst ?_
          refine ev_icmplt f285_65 (fun c50548 => ?_) (fun c50548 => absurd c50548 (by omega))
          refine ev_iconst ?_
          refine g_iast g50547 ad61 rt61 (fun _ => rfl) (by omega) (by omega) (by omega) (by omega) (fun h50549 e50549 g50549 => ?_)
          have k50549 := k50547.wr e50549 rfl
          refine ev_aload_n rfl ?_
          refine ev_dup (by decide) ?_
          refine g_getv (r := 42) (v := v50545) g50549 ad42 (by decide) ft12_28 (((jw_ne e50549 (Or.inl (by decide))).trans ((jw_ne e50547 (Or.inl (by decide))).trans ev50545))) ?_
          refine ev_iconst ?_
          refine ev_iadd (r := (v50545 + 1)) (by unfold w32; omega) ?_
          refine g_putf (r := 42) g50549 ad42 (by decide) ft12_28 (by decide) (fun e => absurd e nz12_28) rf42_28 (by decide) (by omega) (by omega) (fun h50550 e50550 g50550 => ?_)
          have k50550 := k50549.wr e50550 rfl
          refine ev_aload_n rfl ?_
          refine g_getv (r := 42) (v := (v50545 + 1)) g50550 ad42 (by decide) ft12_28 ((jw_eq e50550)) ?_
          refine ev_iconst ?_
          refine ev_isub (r := v50545) (by unfold w32; omega) ?_
          exact ev_ret rfl (by decide) (by decide) ⟨_, rfl, by omega, by omega, g50550, k50550⟩
        · refine ev_bipush ?_
          exact ev_ret rfl (by decide) (by decide) ⟨_, rfl, by omega, by omega, g, k0⟩
      · refine ev_iload_n rfl ?_
        refine ev_iconst ?_
        refine ev_bipush ?_
        refine ev_in (d := 0) (a := 0) (b := 0) (cd' := c242_0) (m := 3) (L0 := [(0, a2), (0, 0), (0, 100)]) (jcall_s (A := [(0, 100), (0, 0), (0, a2)]) (S' := []) (by decide) rfl (Nat.le_of_ble_eq_true rfl)) (by decide) ml242 pp242 (Nat.le_of_ble_eq_true rfl) rfl (by decide) (by decide) ?_
        refine ev_iload_n rfl ?_
        refine ev_iload_n rfl ?_
        refine ev_icmplt f242_14 (fun c50551 => ?_) (fun c50551 => ?_)
        · refine ev_iconst ?_
          refine ev_ret rfl (by decide) (by decide) ?_
          show jEv _ _ _ _ _ _ _ (_, [(2, 42), (0, a1), (0, a2)], [(0, 0)], _, _, _)
          refine ev_ifne f285_26 (fun c50552 => absurd c50552 (by omega)) (fun c50552 => ?_)
          refine ev_iconst ?_
          exact ev_ret rfl (by decide) (by decide) ⟨_, rfl, by omega, by omega, g, k0⟩
        · refine ev_iload_n rfl ?_
          refine ev_iload_n rfl ?_
          refine ev_icmpgt f242_14 (fun c50553 => ?_) (fun c50553 => ?_)
          · refine ev_iconst ?_
            refine ev_ret rfl (by decide) (by decide) ?_
            show jEv _ _ _ _ _ _ _ (_, [(2, 42), (0, a1), (0, a2)], [(0, 0)], _, _, _)
            refine ev_ifne f285_26 (fun c50554 => absurd c50554 (by omega)) (fun c50554 => ?_)
            refine ev_iconst ?_
            exact ev_ret rfl (by decide) (by decide) ⟨_, rfl, by omega, by omega, g, k0⟩
          · refine ev_iconst ?_
            refine ev_goto f242_15 ?_
            refine ev_ret rfl (by decide) (by decide) ?_
            show jEv _ _ _ _ _ _ _ (_, [(2, 42), (0, a1), (0, a2)], [(0, 1)], _, _, _)
            refine ev_ifne f285_26 (fun c50555 => ?_) (fun c50555 => absurd c50555 (by omega))
            refine ev_aload_n rfl ?_
            obtain ⟨v50556, ev50556, lv50556, uv50556⟩ := g.rd ad42 (show 28 < 66 by decide) rf42_28
            refine g_getv (r := 42) (v := v50556) g ad42 (by decide) ft12_28 ev50556 ?_
            refine ev_bipush ?_
            refine ev_icmpne f285_38 (fun c50557 => ?_) (fun c50557 => ?_)
            · refine ev_aload_n rfl ?_
              refine g_getp (r := 42) (c := 60) g ad42 (by decide) (by decide) rf42_29 ft12_29 ?_
              refine ev_aload_n rfl ?_
              refine g_getv (r := 42) (v := v50556) g ad42 (by decide) ft12_28 (ev50556) ?_
              refine ev_iload_n rfl ?_
              refine g_iast g ad60 rt60 (fun _ => rfl) (by omega) (by omega) (by omega) (by omega) (fun h50558 e50558 g50558 => ?_)
              have k50558 := k0.wr e50558 rfl
              refine ev_aload_n rfl ?_
              refine g_getp (r := 42) (c := 61) g50558 ad42 (by decide) (by decide) rf42_30 ft12_30 ?_
              refine ev_aload_n rfl ?_
              refine g_getv (r := 42) (v := v50556) g50558 ad42 (by decide) ft12_28 (((jw_ne e50558 (Or.inl (by decide))).trans ev50556)) ?_
              refine ev_iload_n rfl ?_
              refine ev_iconst ?_
              refine ev_icmplt f285_65 (fun c50559 => absurd c50559 (by omega)) (fun c50559 => ?_)
              refine ev_iload_n rfl ?_
              refine ev_goto f285_66 ?_
              refine g_iast g50558 ad61 rt61 (fun _ => rfl) (by omega) (by omega) (by omega) (by omega) (fun h50560 e50560 g50560 => ?_)
              have k50560 := k50558.wr e50560 rfl
              refine ev_aload_n rfl ?_
              refine ev_dup (by decide) ?_
              refine g_getv (r := 42) (v := v50556) g50560 ad42 (by decide) ft12_28 (((jw_ne e50560 (Or.inl (by decide))).trans ((jw_ne e50558 (Or.inl (by decide))).trans ev50556))) ?_
              refine ev_iconst ?_
              refine ev_iadd (r := (v50556 + 1)) (by unfold w32; omega) ?_
              refine g_putf (r := 42) g50560 ad42 (by decide) ft12_28 (by decide) (fun e => absurd e nz12_28) rf42_28 (by decide) (by omega) (by omega) (fun h50561 e50561 g50561 => ?_)
              have k50561 := k50560.wr e50561 rfl
              refine ev_aload_n rfl ?_
              refine g_getv (r := 42) (v := (v50556 + 1)) g50561 ad42 (by decide) ft12_28 ((jw_eq e50561)) ?_
              refine ev_iconst ?_
              refine ev_isub (r := v50556) (by unfold w32; omega) ?_
              exact ev_ret rfl (by decide) (by decide) ⟨_, rfl, by omega, by omega, g50561, k50561⟩
            · refine ev_bipush ?_
              exact ev_ret rfl (by decide) (by decide) ⟨_, rfl, by omega, by omega, g, k0⟩
/-! 286 step -/
set_option maxHeartbeats 4000000 in
theorem s286 {G : GH} {h : JH} (g : Gd G h) {a1 : Int} (la1 : (-2147483648) ≤ a1) (ua1 : a1 ≤ 2147483647) {a2 : Int} (la2 : (-2147483648) ≤ a2) (ua2 : a2 ≤ 2147483647) : jOk 2 0 0 286 [(2, 42), (0, a1), (0, a2)] h (PI G [(42, 32), (62, 0), (63, 0)] h 0 (-3) 6) := by
  refine ⟨by decide, by rw [ml286]; exact Nat.le_of_ble_eq_true rfl, ?_⟩
  rw [ml286, pp286]
  show jEv _ none _ c286_0 0 0 _ (c286_0, [(2, 42), (0, a1), (0, a2)], [], h, 0, 0)
  have k0 := Kp.rf [(42, 32), (62, 0), (63, 0)] h
  refine ev_iload_n rfl ?_
  refine ev_sipush ?_
  refine ev_sipush ?_
  refine ev_in (d := 0) (a := 0) (b := 0) (cd' := c242_0) (m := 3) (L0 := [(0, a1), (0, (-9999)), (0, 9999)]) (jcall_s (A := [(0, 9999), (0, (-9999)), (0, a1)]) (S' := []) (by decide) rfl (Nat.le_of_ble_eq_true rfl)) (by decide) ml242 pp242 (Nat.le_of_ble_eq_true rfl) rfl (by decide) (by decide) ?_
  refine ev_iload_n rfl ?_
  refine ev_iload_n rfl ?_
  refine ev_icmplt f242_14 (fun c50592 => ?_) (fun c50592 => ?_)
  · refine ev_iconst ?_
    refine ev_ret rfl (by decide) (by decide) ?_
    show jEv _ _ _ _ _ _ _ (_, [(2, 42), (0, a1), (0, a2)], [(0, 0)], _, _, _)
    refine ev_ifeq f286_23 (fun c50593 => ?_) (fun c50593 => absurd c50593 (by omega))
    refine ev_iconst ?_
    exact ev_ret rfl (by decide) (by decide) ⟨_, rfl, by omega, by omega, g, k0⟩
  · refine ev_iload_n rfl ?_
    refine ev_iload_n rfl ?_
    refine ev_icmpgt f242_14 (fun c50594 => ?_) (fun c50594 => ?_)
    · refine ev_iconst ?_
      refine ev_ret rfl (by decide) (by decide) ?_
      show jEv _ _ _ _ _ _ _ (_, [(2, 42), (0, a1), (0, a2)], [(0, 0)], _, _, _)
      refine ev_ifeq f286_23 (fun c50595 => ?_) (fun c50595 => absurd c50595 (by omega))
      refine ev_iconst ?_
      exact ev_ret rfl (by decide) (by decide) ⟨_, rfl, by omega, by omega, g, k0⟩
    · refine ev_iconst ?_
      refine ev_goto f242_15 ?_
      refine ev_ret rfl (by decide) (by decide) ?_
      show jEv _ _ _ _ _ _ _ (_, [(2, 42), (0, a1), (0, a2)], [(0, 1)], _, _, _)
      refine ev_ifeq f286_23 (fun c50596 => absurd c50596 (by omega)) (fun c50596 => ?_)
      refine ev_iload_n rfl ?_
      refine ev_iconst ?_
      refine ev_bipush ?_
      refine ev_in (d := 0) (a := 0) (b := 0) (cd' := c242_0) (m := 3) (L0 := [(0, a2), (0, 0), (0, 9)]) (jcall_s (A := [(0, 9), (0, 0), (0, a2)]) (S' := []) (by decide) rfl (Nat.le_of_ble_eq_true rfl)) (by decide) ml242 pp242 (Nat.le_of_ble_eq_true rfl) rfl (by decide) (by decide) ?_
      refine ev_iload_n rfl ?_
      refine ev_iload_n rfl ?_
      refine ev_icmplt f242_14 (fun c50597 => ?_) (fun c50597 => ?_)
      · refine ev_iconst ?_
        refine ev_ret rfl (by decide) (by decide) ?_
        show jEv _ _ _ _ _ _ _ (_, [(2, 42), (0, a1), (0, a2)], [(0, 0)], _, _, _)
        refine ev_ifne f286_25 (fun c50598 => absurd c50598 (by omega)) (fun c50598 => ?_)
        refine ev_iconst ?_
        exact ev_ret rfl (by decide) (by decide) ⟨_, rfl, by omega, by omega, g, k0⟩
      · refine ev_iload_n rfl ?_
        refine ev_iload_n rfl ?_
        refine ev_icmpgt f242_14 (fun c50599 => ?_) (fun c50599 => ?_)
        · refine ev_iconst ?_
          refine ev_ret rfl (by decide) (by decide) ?_
          show jEv _ _ _ _ _ _ _ (_, [(2, 42), (0, a1), (0, a2)], [(0, 0)], _, _, _)
          refine ev_ifne f286_25 (fun c50600 => absurd c50600 (by omega)) (fun c50600 => ?_)
          refine ev_iconst ?_
          exact ev_ret rfl (by decide) (by decide) ⟨_, rfl, by omega, by omega, g, k0⟩
        · refine ev_iconst ?_
          refine ev_goto f242_15 ?_
          refine ev_ret rfl (by decide) (by decide) ?_
          show jEv _ _ _ _ _ _ _ (_, [(2, 42), (0, a1), (0, a2)], [(0, 1)], _, _, _)
          refine ev_ifne f286_25 (fun c50601 => ?_) (fun c50601 => absurd c50601 (by omega))
          refine ev_aload_n rfl ?_
          obtain ⟨v50602, ev50602, lv50602, uv50602⟩ := g.rd ad42 (show 31 < 66 by decide) rf42_31
          refine g_getv (r := 42) (v := v50602) g ad42 (by decide) ft12_31 ev50602 ?_
          refine ev_bipush ?_
          refine ev_icmpne f286_37 (fun c50603 => ?_) (fun c50603 => ?_)
          · refine ev_aload_n rfl ?_
            refine g_getp (r := 42) (c := 62) g ad42 (by decide) (by decide) rf42_32 ft12_32 ?_
            refine ev_aload_n rfl ?_
            refine g_getv (r := 42) (v := v50602) g ad42 (by decide) ft12_31 (ev50602) ?_
            refine ev_iload_n rfl ?_
            refine g_iast g ad62 rt62 (fun _ => rfl) (by omega) (by omega) (by omega) (by omega) (fun h50604 e50604 g50604 => ?_)
            have k50604 := k0.wr e50604 rfl
            refine ev_aload_n rfl ?_
            refine g_getp (r := 42) (c := 63) g50604 ad42 (by decide) (by decide) rf42_33 ft12_33 ?_
            refine ev_aload_n rfl ?_
            refine g_getv (r := 42) (v := v50602) g50604 ad42 (by decide) ft12_31 (((jw_ne e50604 (Or.inl (by decide))).trans ev50602)) ?_
            refine ev_iload_n rfl ?_
            refine g_iast g50604 ad63 rt63 (fun _ => rfl) (by omega) (by omega) (by omega) (by omega) (fun h50605 e50605 g50605 => ?_)
            have k50605 := k50604.wr e50605 rfl
            refine ev_aload_n rfl ?_
            refine ev_dup (by decide) ?_
            refine g_getv (r := 42) (v := v50602) g50605 ad42 (by decide) ft12_31 (((jw_ne e50605 (Or.inl (by decide))).trans ((jw_ne e50604 (Or.inl (by decide))).trans ev50602))) ?_
            refine ev_iconst ?_
            refine ev_iadd (r := (v50602 + 1)) (by unfold w32; omega) ?_
            refine g_putf (r := 42) g50605 ad42 (by decide) ft12_31 (by decide) (fun e => absurd e nz12_31) rf42_31 (by decide) (by omega) (by omega) (fun h50606 e50606 g50606 => ?_)
            have k50606 := k50605.wr e50606 rfl
            refine ev_aload_n rfl ?_
            refine g_getv (r := 42) (v := (v50602 + 1)) g50606 ad42 (by decide) ft12_31 ((jw_eq e50606)) ?_
            exact ev_ret rfl (by decide) (by decide) ⟨_, rfl, by omega, by omega, g50606, k50606⟩
          · refine ev_bipush ?_
            exact ev_ret rfl (by decide) (by decide) ⟨_, rfl, by omega, by omega, g, k0⟩
/-! 287 coinBy -/
set_option maxHeartbeats 4000000 in
theorem s287_l {G : GH} {h : JH} {a1 : Int} (la1 : (-2147483648) ≤ a1) (ua1 : a1 ≤ 2147483647) : ∀ N : Nat, (∀ (h1 : JH) (x2 x3 : Int), Gd G h1 → Kp [] h h1 → (-2147483648) ≤ a1 → a1 ≤ 2147483647 → (-1) ≤ x2 → x2 ≤ 5 → 0 ≤ x3 → x3 ≤ 6 → ((-x3) + 6) < N → jEv (jOk 0) none (fun _ => 0) c287_0 0 0 (PI G [] h 0 0 100) (c287_4, [(2, 42), (0, a1), (0, x2), (0, x3)], [], h1, 0, 0)) := by
  intro N
  induction N with
  | zero => exact fun h1 x2 x3 g1 k1 b0 b1 b2 b3 b4 b5 hm => absurd hm (by omega)
  | succ N ih =>
    show _
    intro h1 x2 x3 g1 k1 b0 b1 b2 b3 b4 b5 hm
    refine ev_iload_n rfl ?_
    refine ev_aload_n rfl ?_
    obtain ⟨v50676, ev50676, lv50676, uv50676⟩ := g1.rd ad42 (show 31 < 66 by decide) rf42_31
    refine g_getv (r := 42) (v := v50676) g1 ad42 (by decide) ft12_31 ev50676 ?_
    refine ev_icmpge f287_49 (fun c50677 => ?_) (fun c50677 => ?_)
    · refine ev_iload_n rfl ?_
      refine ev_ifge f287_58 (fun c50678 => ?_) (fun c50678 => ?_)
      · refine ev_bipush ?_
        refine ev_aload_n rfl ?_
        refine g_getp (r := 42) (c := 63) g1 ad42 (by decide) (by decide) rf42_33 ft12_33 ?_
        refine ev_iload_n rfl ?_
        refine g_iald g1 ad63 rt63 (by omega) (by omega) (fun v50679 ev50679 lv50679 uv50679 => ?_)
        refine ev_imul (r := (10 * v50679)) (by unfold w32; omega) ?_
        exact ev_ret rfl (by decide) (by decide) ⟨_, rfl, by omega, by omega, g1, k1⟩
      · refine ev_bipush ?_
        refine ev_goto f287_67 ?_
        exact ev_ret rfl (by decide) (by decide) ⟨_, rfl, by omega, by omega, g1, k1⟩
    · refine ev_aload_n rfl ?_
      refine g_getp (r := 42) (c := 62) g1 ad42 (by decide) (by decide) rf42_32 ft12_32 ?_
      refine ev_iload_n rfl ?_
      refine g_iald g1 ad62 rt62 (by omega) (by omega) (fun v50680 ev50680 lv50680 uv50680 => ?_)
      refine ev_iload_n rfl ?_
      refine ev_icmpgt f287_43 (fun c50681 => ?_) (fun c50681 => ?_)
      · refine ev_iinc (w := (x3 + 1)) (L' := [(2, 42), (0, a1), (0, x2), (0, (x3 + 1))]) rfl (by unfold w32; omega) rfl ?_
        refine ev_goto f287_4 ?_
        exact ih _ _ _ g1 k1 (by omega) (by omega) (by omega) (by omega) (by omega) (by omega) (by omega)
      · refine ev_iload_n rfl ?_
        refine ev_iflt f287_41 (fun c50682 => ?_) (fun c50682 => ?_)
        · refine ev_iload_n rfl ?_
          refine ev_istore_n (L' := [(2, 42), (0, a1), (0, x3), (0, x3)]) (Nat.le_of_ble_eq_true rfl) rfl ?_
          refine ev_iinc (w := (x3 + 1)) (L' := [(2, 42), (0, a1), (0, x3), (0, (x3 + 1))]) rfl (by unfold w32; omega) rfl ?_
          refine ev_goto f287_4 ?_
          exact ih _ _ _ g1 k1 (by omega) (by omega) (by omega) (by omega) (by omega) (by omega) (by omega)
        · refine ev_aload_n rfl ?_
          refine g_getp (r := 42) (c := 62) g1 ad42 (by decide) (by decide) rf42_32 ft12_32 ?_
          refine ev_iload_n rfl ?_
          refine g_ialdv (v := v50680) g1 ad62 (by omega) (by omega) (ev50680) ?_
          refine ev_aload_n rfl ?_
          refine g_getp (r := 42) (c := 62) g1 ad42 (by decide) (by decide) rf42_32 ft12_32 ?_
          refine ev_iload_n rfl ?_
          refine g_iald g1 ad62 rt62 (by omega) (by omega) (fun v50683 ev50683 lv50683 uv50683 => ?_)
          refine ev_icmplt f287_43 (fun c50684 => ?_) (fun c50684 => ?_)
          · refine ev_iinc (w := (x3 + 1)) (L' := [(2, 42), (0, a1), (0, x2), (0, (x3 + 1))]) rfl (by unfold w32; omega) rfl ?_
            refine ev_goto f287_4 ?_
            exact ih _ _ _ g1 k1 (by omega) (by omega) (by omega) (by omega) (by omega) (by omega) (by omega)
          · refine ev_iload_n rfl ?_
            refine ev_istore_n (L' := [(2, 42), (0, a1), (0, x3), (0, x3)]) (Nat.le_of_ble_eq_true rfl) rfl ?_
            refine ev_iinc (w := (x3 + 1)) (L' := [(2, 42), (0, a1), (0, x3), (0, (x3 + 1))]) rfl (by unfold w32; omega) rfl ?_
            refine ev_goto f287_4 ?_
            exact ih _ _ _ g1 k1 (by omega) (by omega) (by omega) (by omega) (by omega) (by omega) (by omega)
set_option maxHeartbeats 4000000 in
theorem s287 {G : GH} {h : JH} (g : Gd G h) {a1 : Int} (la1 : (-2147483648) ≤ a1) (ua1 : a1 ≤ 2147483647) : jOk 1 0 0 287 [(2, 42), (0, a1)] h (PI G [] h 0 0 100) := by
  refine ⟨by decide, by rw [ml287]; exact Nat.le_of_ble_eq_true rfl, ?_⟩
  rw [ml287, pp287]
  show jEv _ none _ c287_0 0 0 _ (c287_0, [(2, 42), (0, a1), (9, 0), (9, 0)], [], h, 0, 0)
  have k0 := Kp.rf [] h
  refine ev_iconst ?_
  refine ev_istore_n (L' := [(2, 42), (0, a1), (0, (-1)), (9, 0)]) (Nat.le_of_ble_eq_true rfl) rfl ?_
  refine ev_iconst ?_
  refine ev_istore_n (L' := [(2, 42), (0, a1), (0, (-1)), (0, 0)]) (Nat.le_of_ble_eq_true rfl) rfl ?_
  exact (s287_l la1 ua1 14) _ _ _ g k0 (by omega) (by omega) (by omega) (by omega) (by omega) (by omega) (by omega)
/-! 288 feltOf -/
set_option maxHeartbeats 4000000 in
theorem s288_l {G : GH} {h : JH} {a1 : Int} (la1 : (-1000000) ≤ a1) (ua1 : a1 ≤ 1000000) : ∀ N : Nat, (∀ (h1 : JH) (x2 x3 : Int), Gd G h1 → Kp [] h h1 → (-1000000) ≤ a1 → a1 ≤ 1000000 → (-2147483648) ≤ x2 → x2 ≤ 2147483647 → 1 ≤ x3 → x3 ≤ 1000000000 → ((-x3) + 2000000001) < N → jEv (jOk 1) none (fun _ => 0) c288_0 0 0 (PI G [] h 0 (-2147483648) 2147483647) (c288_4, [(2, 42), (0, a1), (0, x2), (0, x3)], [], h1, 0, 0)) ∧ (∀ (h1 : JH) (x2 x3 : Int), Gd G h1 → Kp [] h h1 → (-1000000) ≤ a1 → a1 ≤ 1000000 → (-2147483648) ≤ x2 → x2 ≤ 2147483647 → (-1000000000) ≤ x3 → x3 ≤ 0 → (x3 + 1000000000) < N → jEv (jOk 1) none (fun _ => 0) c288_0 0 0 (PI G [] h 0 (-2147483648) 2147483647) (c288_25, [(2, 42), (0, a1), (0, x2), (0, x3)], [], h1, 0, 0)) := by
  intro N
  induction N with
  | zero => exact ⟨fun h1 x2 x3 g1 k1 b0 b1 b2 b3 b4 b5 hm => absurd hm (by omega), fun h1 x2 x3 g1 k1 b0 b1 b2 b3 b4 b5 hm => absurd hm (by omega)⟩
  | succ N ih =>
    refine ⟨?_, ?_⟩
    · intro h1 x2 x3 g1 k1 b0 b1 b2 b3 b4 b5 hm
      refine ev_iload_n rfl ?_
      refine ev_iload_n rfl ?_
      refine ev_icmpgt f288_23 (fun c51038 => ?_) (fun c51038 => ?_)
      · refine ev_iconst ?_
        refine ev_istore_n (L' := [(2, 42), (0, a1), (0, x2), (0, 0)]) (Nat.le_of_ble_eq_true rfl) rfl ?_
        exact ih.2 _ _ _ g1 k1 (by omega) (by omega) (by omega) (by omega) (by omega) (by omega) (by omega)
      · refine ev_iload_n rfl ?_
        refine ev_aload_n rfl ?_
        refine ev_iload_n rfl ?_
        refine ev_call (jcall_v (A := [(0, x3)]) (S' := [(0, x2)]) (r := 42) rfl (g1.lt ad42) (g1.tg ad42) (Nat.le_of_ble_eq_true rfl)) (jOk_le (by decide) (s287 g1 (by omega) (by omega))) (by decide) (by decide) (fun w51039 h51039 q51039 => ?_)
        obtain ⟨v51040, rfl, lv51040, uv51040, g51039, kk51039⟩ := q51039
        have k51039 := k1.tr kk51039 (by decide)
        show jEv _ _ _ _ _ _ _ (_, [(2, 42), (0, a1), (0, x2), (0, x3)], [(0, v51040), (0, x2)], _, _, _)
        refine g_iaddG (fun v51041 ev51041 lv51041 uv51041 => ?_)
        refine ev_istore_n (L' := [(2, 42), (0, a1), (0, v51041), (0, x3)]) (Nat.le_of_ble_eq_true rfl) rfl ?_
        refine ev_iinc (w := (x3 + 1)) (L' := [(2, 42), (0, a1), (0, v51041), (0, (x3 + 1))]) rfl (by unfold w32; omega) rfl ?_
        refine ev_goto f288_4 ?_
        exact ih.1 _ _ _ g51039 k51039 (by omega) (by omega) (by omega) (by omega) (by omega) (by omega) (by omega)
    · intro h1 x2 x3 g1 k1 b0 b1 b2 b3 b4 b5 hm
      refine ev_iload_n rfl ?_
      refine ev_iload_n rfl ?_
      refine ev_icmple f288_44 (fun c51042 => ?_) (fun c51042 => ?_)
      · refine ev_iload_n rfl ?_
        exact ev_ret rfl (by decide) (by decide) ⟨_, rfl, by omega, by omega, g1, k1⟩
      · refine ev_iload_n rfl ?_
        refine ev_aload_n rfl ?_
        refine ev_iload_n rfl ?_
        refine ev_call (jcall_v (A := [(0, x3)]) (S' := [(0, x2)]) (r := 42) rfl (g1.lt ad42) (g1.tg ad42) (Nat.le_of_ble_eq_true rfl)) (jOk_le (by decide) (s287 g1 (by omega) (by omega))) (by decide) (by decide) (fun w51043 h51043 q51043 => ?_)
        obtain ⟨v51044, rfl, lv51044, uv51044, g51043, kk51043⟩ := q51043
        have k51043 := k1.tr kk51043 (by decide)
        show jEv _ _ _ _ _ _ _ (_, [(2, 42), (0, a1), (0, x2), (0, x3)], [(0, v51044), (0, x2)], _, _, _)
        refine g_isubG (fun v51045 ev51045 lv51045 uv51045 => ?_)
        refine ev_istore_n (L' := [(2, 42), (0, a1), (0, v51045), (0, x3)]) (Nat.le_of_ble_eq_true rfl) rfl ?_
        refine ev_iinc (w := (x3 - 1)) (L' := [(2, 42), (0, a1), (0, v51045), (0, (x3 - 1))]) rfl (by unfold w32; omega) rfl ?_
        refine ev_goto f288_25 ?_
        exact ih.2 _ _ _ g51043 k51043 (by omega) (by omega) (by omega) (by omega) (by omega) (by omega) (by omega)
set_option maxHeartbeats 4000000 in
theorem s288 {G : GH} {h : JH} (g : Gd G h) {a1 : Int} (la1 : (-1000000) ≤ a1) (ua1 : a1 ≤ 1000000) : jOk 2 0 0 288 [(2, 42), (0, a1)] h (PI G [] h 0 (-2147483648) 2147483647) := by
  refine ⟨by decide, by rw [ml288]; exact Nat.le_of_ble_eq_true rfl, ?_⟩
  rw [ml288, pp288]
  show jEv _ none _ c288_0 0 0 _ (c288_0, [(2, 42), (0, a1), (9, 0), (9, 0)], [], h, 0, 0)
  have k0 := Kp.rf [] h
  refine ev_iconst ?_
  refine ev_istore_n (L' := [(2, 42), (0, a1), (0, 0), (9, 0)]) (Nat.le_of_ble_eq_true rfl) rfl ?_
  refine ev_iconst ?_
  refine ev_istore_n (L' := [(2, 42), (0, a1), (0, 0), (0, 1)]) (Nat.le_of_ble_eq_true rfl) rfl ?_
  exact (s288_l la1 ua1 3000000003).1 _ _ _ g k0 (by omega) (by omega) (by omega) (by omega) (by omega) (by omega) (by omega)
/-! 289 countsBy -/
set_option maxHeartbeats 4000000 in
theorem s289 {G : GH} {h : JH} (g : Gd G h) {a1 : Int} (la1 : (-2147483648) ≤ a1) (ua1 : a1 ≤ 2147483647) {a2 : Int} (la2 : (-2147483648) ≤ a2) (ua2 : a2 ≤ 2147483647) {a3 : Int} (la3 : (-1000000) ≤ a3) (ua3 : a3 ≤ 1000000) : jOk 3 0 0 289 [(2, 42), (0, a1), (0, a2), (0, a3)] h (PI G [] h 0 (-2147483648) 2147483647) := by
  refine ⟨by decide, by rw [ml289]; exact Nat.le_of_ble_eq_true rfl, ?_⟩
  rw [ml289, pp289]
  show jEv _ none _ c289_0 0 0 _ (c289_0, [(2, 42), (0, a1), (0, a2), (0, a3)], [], h, 0, 0)
  have k0 := Kp.rf [] h
  refine ev_iload_n rfl ?_
  refine ev_iconst ?_
  refine ev_icmpeq f289_10 (fun c51068 => ?_) (fun c51068 => ?_)
  · refine ev_aload_n rfl ?_
    refine ev_iload_n rfl ?_
    refine ev_call (jcall_v (A := [(0, a3)]) (S' := []) (r := 42) rfl (g.lt ad42) (g.tg ad42) (Nat.le_of_ble_eq_true rfl)) (jOk_le (by decide) (s288 g (by omega) (by omega))) (by decide) (by decide) (fun w51069 h51069 q51069 => ?_)
    obtain ⟨v51070, rfl, lv51070, uv51070, g51069, kk51069⟩ := q51069
    have k51069 := k0.tr kk51069 (by decide)
    show jEv _ _ _ _ _ _ _ (_, [(2, 42), (0, a1), (0, a2), (0, a3)], [(0, v51070)], _, _, _)
    exact ev_ret rfl (by decide) (by decide) ⟨_, rfl, by omega, by omega, g51069, k51069⟩
  · refine ev_iload_n rfl ?_
    refine ev_iconst ?_
    refine ev_icmpne f289_16 (fun c51071 => ?_) (fun c51071 => ?_)
    · refine ev_iload_n rfl ?_
      refine ev_iconst ?_
      refine ev_icmplt f289_30 (fun c51072 => ?_) (fun c51072 => ?_)
      · refine ev_bipush ?_
        refine ev_iload_n rfl ?_
        refine ev_imul (r := (100 * a3)) (by unfold w32; omega) ?_
        refine ev_goto f289_40 ?_
        exact ev_ret rfl (by decide) (by decide) ⟨_, rfl, by omega, by omega, g, k0⟩
      · refine ev_iload_n rfl ?_
        refine ev_iconst ?_
        refine ev_icmpne f289_37 (fun c51073 => ?_) (fun c51073 => ?_)
        · refine ev_iload_n rfl ?_
          refine ev_iload_n rfl ?_
          refine g_imulG (fun v51074 ev51074 lv51074 uv51074 => ?_)
          exact ev_ret rfl (by decide) (by decide) ⟨_, rfl, by omega, by omega, g, k0⟩
        · refine ev_iload_n rfl ?_
          refine ev_ifge f289_37 (fun c51075 => ?_) (fun c51075 => ?_)
          · refine ev_iload_n rfl ?_
            refine ev_iload_n rfl ?_
            refine g_imulG (fun v51076 ev51076 lv51076 uv51076 => ?_)
            exact ev_ret rfl (by decide) (by decide) ⟨_, rfl, by omega, by omega, g, k0⟩
          · refine ev_bipush ?_
            refine ev_iload_n rfl ?_
            refine ev_imul (r := (100 * a3)) (by unfold w32; omega) ?_
            refine ev_goto f289_40 ?_
            exact ev_ret rfl (by decide) (by decide) ⟨_, rfl, by omega, by omega, g, k0⟩
    · refine ev_aload_n rfl ?_
      refine ev_iload_n rfl ?_
      refine ev_call (jcall_v (A := [(0, a3)]) (S' := []) (r := 42) rfl (g.lt ad42) (g.tg ad42) (Nat.le_of_ble_eq_true rfl)) (jOk_le (by decide) (s288 g (by omega) (by omega))) (by decide) (by decide) (fun w51077 h51077 q51077 => ?_)
      obtain ⟨v51078, rfl, lv51078, uv51078, g51077, kk51077⟩ := q51077
      have k51077 := k0.tr kk51077 (by decide)
      show jEv _ _ _ _ _ _ _ (_, [(2, 42), (0, a1), (0, a2), (0, a3)], [(0, v51078)], _, _, _)
      exact ev_ret rfl (by decide) (by decide) ⟨_, rfl, by omega, by omega, g51077, k51077⟩
/-! 290 counts -/
set_option maxHeartbeats 4000000 in
theorem s290 {G : GH} {h : JH} (g : Gd G h) {a1 : Int} (la1 : (-2147483648) ≤ a1) (ua1 : a1 ≤ 2147483647) {a2 : Int} (la2 : (-2147483648) ≤ a2) (ua2 : a2 ≤ 2147483647) : jOk 4 0 0 290 [(2, 42), (0, a1), (0, a2)] h (PI G [] h 0 (-2147483648) 2147483647) := by
  refine ⟨by decide, by rw [ml290]; exact Nat.le_of_ble_eq_true rfl, ?_⟩
  rw [ml290, pp290]
  show jEv _ none _ c290_0 0 0 _ (c290_0, [(2, 42), (0, a1), (0, a2)], [], h, 0, 0)
  have k0 := Kp.rf [] h
  refine ev_aload_n rfl ?_
  refine ev_iload_n rfl ?_
  refine ev_in (d := 2) (a := 0) (b := 0) (cd' := c284_0) (m := 2) (L0 := [(2, 42), (0, a1)]) (jcall_v (A := [(0, a1)]) (S' := []) (r := 42) rfl (g.lt ad42) (g.tg ad42) (Nat.le_of_ble_eq_true rfl)) (by decide) ml284 pp284 (Nat.le_of_ble_eq_true rfl) rfl (by decide) (by decide) ?_
  refine ev_iload_n rfl ?_
  refine ev_iconst ?_
  refine ev_aload_n rfl ?_
  obtain ⟨v51109, ev51109, lv51109, uv51109⟩ := g.rd ad42 (show 28 < 66 by decide) rf42_28
  refine g_getv (r := 42) (v := v51109) g ad42 (by decide) ft12_28 ev51109 ?_
  refine ev_iconst ?_
  refine ev_isub (r := (v51109 - 1)) (by unfold w32; omega) ?_
  refine ev_in (d := 1) (a := 0) (b := 0) (cd' := c242_0) (m := 3) (L0 := [(0, a1), (0, 0), (0, (v51109 - 1))]) (jcall_s (A := [(0, (v51109 - 1)), (0, 0), (0, a1)]) (S' := []) (by decide) rfl (Nat.le_of_ble_eq_true rfl)) (by decide) ml242 pp242 (Nat.le_of_ble_eq_true rfl) rfl (by decide) (by decide) ?_
  refine ev_iload_n rfl ?_
  refine ev_iload_n rfl ?_
  refine ev_icmplt f242_14 (fun c51110 => ?_) (fun c51110 => ?_)
  · refine ev_iconst ?_
    refine ev_ret rfl (by decide) (by decide) ?_
    show jEv _ _ _ _ _ _ _ (_, [(2, 42), (0, a1)], [(0, 0)], _, _, _)
    refine ev_ret rfl (by decide) (by decide) ?_
    show jEv _ _ _ _ _ _ _ (_, [(2, 42), (0, a1), (0, a2)], [(0, 0)], _, _, _)
    refine ev_ifeq f290_41 (fun c51111 => ?_) (fun c51111 => absurd c51111 (by omega))
    refine ev_ldc_w ?_
    exact ev_ret rfl (by decide) (by decide) ⟨_, rfl, by omega, by omega, g, k0⟩
  · refine ev_iload_n rfl ?_
    refine ev_iload_n rfl ?_
    refine ev_icmpgt f242_14 (fun c51112 => ?_) (fun c51112 => ?_)
    · refine ev_iconst ?_
      refine ev_ret rfl (by decide) (by decide) ?_
      show jEv _ _ _ _ _ _ _ (_, [(2, 42), (0, a1)], [(0, 0)], _, _, _)
      refine ev_ret rfl (by decide) (by decide) ?_
      show jEv _ _ _ _ _ _ _ (_, [(2, 42), (0, a1), (0, a2)], [(0, 0)], _, _, _)
      refine ev_ifeq f290_41 (fun c51113 => ?_) (fun c51113 => absurd c51113 (by omega))
      refine ev_ldc_w ?_
      exact ev_ret rfl (by decide) (by decide) ⟨_, rfl, by omega, by omega, g, k0⟩
    · refine ev_iconst ?_
      refine ev_goto f242_15 ?_
      refine ev_ret rfl (by decide) (by decide) ?_
      show jEv _ _ _ _ _ _ _ (_, [(2, 42), (0, a1)], [(0, 1)], _, _, _)
      refine ev_ret rfl (by decide) (by decide) ?_
      show jEv _ _ _ _ _ _ _ (_, [(2, 42), (0, a1), (0, a2)], [(0, 1)], _, _, _)
      refine ev_ifeq f290_41 (fun c51114 => absurd c51114 (by omega)) (fun c51114 => ?_)
      refine ev_iload_n rfl ?_
      refine ev_sipush ?_
      refine ev_sipush ?_
      refine ev_in (d := 2) (a := 0) (b := 0) (cd' := c242_0) (m := 3) (L0 := [(0, a2), (0, (-9999)), (0, 9999)]) (jcall_s (A := [(0, 9999), (0, (-9999)), (0, a2)]) (S' := []) (by decide) rfl (Nat.le_of_ble_eq_true rfl)) (by decide) ml242 pp242 (Nat.le_of_ble_eq_true rfl) rfl (by decide) (by decide) ?_
      refine ev_iload_n rfl ?_
      refine ev_iload_n rfl ?_
      refine ev_icmplt f242_14 (fun c51115 => ?_) (fun c51115 => ?_)
      · refine ev_iconst ?_
        refine ev_ret rfl (by decide) (by decide) ?_
        show jEv _ _ _ _ _ _ _ (_, [(2, 42), (0, a1), (0, a2)], [(0, 0)], _, _, _)
        refine ev_ifeq f290_41 (fun c51116 => ?_) (fun c51116 => absurd c51116 (by omega))
        refine ev_ldc_w ?_
        exact ev_ret rfl (by decide) (by decide) ⟨_, rfl, by omega, by omega, g, k0⟩
      · refine ev_iload_n rfl ?_
        refine ev_iload_n rfl ?_
        refine ev_icmpgt f242_14 (fun c51117 => ?_) (fun c51117 => ?_)
        · refine ev_iconst ?_
          refine ev_ret rfl (by decide) (by decide) ?_
          show jEv _ _ _ _ _ _ _ (_, [(2, 42), (0, a1), (0, a2)], [(0, 0)], _, _, _)
          refine ev_ifeq f290_41 (fun c51118 => ?_) (fun c51118 => absurd c51118 (by omega))
          refine ev_ldc_w ?_
          exact ev_ret rfl (by decide) (by decide) ⟨_, rfl, by omega, by omega, g, k0⟩
        · refine ev_iconst ?_
          refine ev_goto f242_15 ?_
          refine ev_ret rfl (by decide) (by decide) ?_
          show jEv _ _ _ _ _ _ _ (_, [(2, 42), (0, a1), (0, a2)], [(0, 1)], _, _, _)
          refine ev_ifeq f290_41 (fun c51119 => absurd c51119 (by omega)) (fun c51119 => ?_)
          refine ev_aload_n rfl ?_
          refine ev_aload_n rfl ?_
          refine g_getp (r := 42) (c := 60) g ad42 (by decide) (by decide) rf42_29 ft12_29 ?_
          refine ev_iload_n rfl ?_
          refine g_iald g ad60 rt60 (by omega) (by omega) (fun v51120 ev51120 lv51120 uv51120 => ?_)
          refine ev_aload_n rfl ?_
          refine g_getp (r := 42) (c := 61) g ad42 (by decide) (by decide) rf42_30 ft12_30 ?_
          refine ev_iload_n rfl ?_
          refine g_iald g ad61 rt61 (by omega) (by omega) (fun v51121 ev51121 lv51121 uv51121 => ?_)
          refine ev_iload_n rfl ?_
          refine ev_call (jcall_v (A := [(0, a2), (0, v51121), (0, v51120)]) (S' := []) (r := 42) rfl (g.lt ad42) (g.tg ad42) (Nat.le_of_ble_eq_true rfl)) (jOk_le (by decide) (s289 g (by omega) (by omega) (by omega) (by omega) (by omega) (by omega))) (by decide) (by decide) (fun w51122 h51122 q51122 => ?_)
          obtain ⟨v51123, rfl, lv51123, uv51123, g51122, kk51122⟩ := q51122
          have k51122 := k0.tr kk51122 (by decide)
          show jEv _ _ _ _ _ _ _ (_, [(2, 42), (0, a1), (0, a2)], [(0, v51123)], _, _, _)
          refine ev_goto f290_44 ?_
          exact ev_ret rfl (by decide) (by decide) ⟨_, rfl, by omega, by omega, g51122, k51122⟩
/-! 356 ran -/
set_option maxHeartbeats 4000000 in
theorem s356 {G : GH} {h : JH} (g : Gd G h) {a1 : Int} (la1 : (-2147483648) ≤ a1) (ua1 : a1 ≤ 2147483647) {w0 : Int} (ew0 : h.2.2 42 60 = w0) (lw0 : 0 ≤ w0) (uw0 : w0 ≤ 999) : jOk 1 0 0 356 [(2, 42), (0, a1)] h (fun v h' => PV G [(42, 61), (78, 0)] h v h' ∧ h'.2.2 42 60 ≤ w0 + 1) := by
  refine ⟨by decide, by rw [ml356]; exact Nat.le_of_ble_eq_true rfl, ?_⟩
  rw [ml356, pp356]
  show jEv _ none _ c356_0 0 0 _ (c356_0, [(2, 42), (0, a1)], [], h, 0, 0)
  have k0 := Kp.rf [(42, 61), (78, 0)] h
  refine ev_aload_n rfl ?_
  refine g_getv (r := 42) (v := w0) g ad42 (by decide) ft12_60 (ew0) ?_
  refine ev_bipush ?_
  refine ev_icmpge f356_19 (fun c51132 => ?_) (fun c51132 => ?_)
  · refine ev_aload_n rfl ?_
    refine ev_dup (by decide) ?_
    refine g_getv (r := 42) (v := w0) g ad42 (by decide) ft12_60 (ew0) ?_
    refine ev_iconst ?_
    refine ev_iadd (r := (w0 + 1)) (by unfold w32; omega) ?_
    refine g_putf (r := 42) g ad42 (by decide) ft12_60 (by decide) (fun e => absurd e nz12_60) rf42_60 (by decide) (by omega) (by omega) (fun h51133 e51133 g51133 => ?_)
    have k51133 := k0.wr e51133 rfl
    exact ev_ret rfl (by decide) (by decide) ⟨⟨rfl, g51133, k51133⟩, Int.le_trans (Int.le_of_eq ((jw_eq e51133))) (by omega)⟩
  · refine ev_aload_n rfl ?_
    refine g_getp (r := 42) (c := 78) g ad42 (by decide) (by decide) rf42_61 ft12_61 ?_
    refine ev_aload_n rfl ?_
    refine g_getv (r := 42) (v := w0) g ad42 (by decide) ft12_60 (ew0) ?_
    refine ev_iload_n rfl ?_
    refine g_iast g ad78 rt78 (fun _ => rfl) (by omega) (by omega) (by omega) (by omega) (fun h51134 e51134 g51134 => ?_)
    have k51134 := k0.wr e51134 rfl
    refine ev_aload_n rfl ?_
    refine ev_dup (by decide) ?_
    refine g_getv (r := 42) (v := w0) g51134 ad42 (by decide) ft12_60 (((jw_ne e51134 (Or.inl (by decide))).trans ew0)) ?_
    refine ev_iconst ?_
    refine ev_iadd (r := (w0 + 1)) (by unfold w32; omega) ?_
    refine g_putf (r := 42) g51134 ad42 (by decide) ft12_60 (by decide) (fun e => absurd e nz12_60) rf42_60 (by decide) (by omega) (by omega) (fun h51135 e51135 g51135 => ?_)
    have k51135 := k51134.wr e51135 rfl
    exact ev_ret rfl (by decide) (by decide) ⟨⟨rfl, g51135, k51135⟩, Int.le_trans (Int.le_of_eq ((jw_eq e51135))) (by omega)⟩
/-! 357 plainPays -/
set_option maxHeartbeats 4000000 in
theorem s357 {G : GH} {h : JH} (g : Gd G h) {a1 : Int} (la1 : 0 ≤ a1) (ua1 : a1 ≤ 19) {a2 : Int} (la2 : (-2147483648) ≤ a2) (ua2 : a2 ≤ 2147483647) {w0 : Int} (ew0 : h.2.2 42 60 = w0) (lw0 : 0 ≤ w0) (uw0 : w0 ≤ 999) : jOk 2 0 0 357 [(2, 42), (0, a1), (0, a2)] h (fun v h' => PI G [(42, 61), (78, 0)] h 0 (-2147483648) 2147483647 v h' ∧ h'.2.2 42 60 ≤ w0 + 1) := by
  refine ⟨by decide, by rw [ml357]; exact Nat.le_of_ble_eq_true rfl, ?_⟩
  rw [ml357, pp357]
  show jEv _ none _ c357_0 0 0 _ (c357_0, [(2, 42), (0, a1), (0, a2)], [], h, 0, 0)
  have k0 := Kp.rf [(42, 61), (78, 0)] h
  refine ev_aload_n rfl ?_
  refine ev_iconst ?_
  refine ev_call (jcall_v (A := [(0, 1)]) (S' := []) (r := 42) rfl (g.lt ad42) (g.tg ad42) (Nat.le_of_ble_eq_true rfl)) (jOk_le (by decide) (s356 g (by omega) (by omega) (ew0) (by omega) (by omega))) (by decide) (by decide) (fun w51142 h51142 q51142 => ?_)
  obtain ⟨q51142, fp51142⟩ := q51142
  obtain ⟨rfl, g51142, kk51142⟩ := q51142
  have k51142 := k0.tr kk51142 (by decide)
  obtain ⟨v51143, ev51143, lv51143, uv51143⟩ := g51142.rd ad42 (show 60 < 66 by decide) rf42_60
  rw [ev51143] at fp51142
  show jEv _ _ _ _ _ _ _ (_, [(2, 42), (0, a1), (0, a2)], [], _, _, _)
  refine ev_iload_n rfl ?_
  refine ev_iload_n rfl ?_
  refine g_iaddG (fun v51144 ev51144 lv51144 uv51144 => ?_)
  exact ev_ret rfl (by decide) (by decide) ⟨⟨_, rfl, by omega, by omega, g51142, k51142⟩, Int.le_trans (Int.le_of_eq (ev51143)) (by omega)⟩
/-! 358 partPays -/
set_option maxHeartbeats 4000000 in
theorem s358 {G : GH} {h : JH} (g : Gd G h) {a1 : Int} (la1 : 0 ≤ a1) (ua1 : a1 ≤ 19) {a2 : Int} (la2 : (-2147483648) ≤ a2) (ua2 : a2 ≤ 2147483647) {w0 : Int} (ew0 : h.2.2 42 60 = w0) (lw0 : 0 ≤ w0) (uw0 : w0 ≤ 998) : jOk 3 0 0 358 [(2, 42), (0, a1), (0, a2)] h (fun v h' => PI G [(42, 61), (78, 0)] h 0 (-2147483648) 2147483647 v h' ∧ h'.2.2 42 60 ≤ w0 + 2) := by
  refine ⟨by decide, by rw [ml358]; exact Nat.le_of_ble_eq_true rfl, ?_⟩
  rw [ml358, pp358]
  show jEv _ none _ c358_0 0 0 _ (c358_0, [(2, 42), (0, a1), (0, a2)], [], h, 0, 0)
  have k0 := Kp.rf [(42, 61), (78, 0)] h
  refine ev_aload_n rfl ?_
  refine ev_bipush ?_
  refine ev_call (jcall_v (A := [(0, 50)]) (S' := []) (r := 42) rfl (g.lt ad42) (g.tg ad42) (Nat.le_of_ble_eq_true rfl)) (jOk_le (by decide) (s356 g (by omega) (by omega) (ew0) (by omega) (by omega))) (by decide) (by decide) (fun w51159 h51159 q51159 => ?_)
  obtain ⟨q51159, fp51159⟩ := q51159
  obtain ⟨rfl, g51159, kk51159⟩ := q51159
  have k51159 := k0.tr kk51159 (by decide)
  obtain ⟨v51160, ev51160, lv51160, uv51160⟩ := g51159.rd ad42 (show 60 < 66 by decide) rf42_60
  rw [ev51160] at fp51159
  show jEv _ _ _ _ _ _ _ (_, [(2, 42), (0, a1), (0, a2)], [], _, _, _)
  refine ev_aload_n rfl ?_
  refine ev_iload_n rfl ?_
  refine ev_iload_n rfl ?_
  refine ev_call (jcall_v (A := [(0, a2), (0, a1)]) (S' := []) (r := 42) rfl (g51159.lt ad42) (g51159.tg ad42) (Nat.le_of_ble_eq_true rfl)) (jOk_le (by decide) (s357 g51159 (by omega) (by omega) (by omega) (by omega) (ev51160) (by omega) (by omega))) (by decide) (by decide) (fun w51161 h51161 q51161 => ?_)
  obtain ⟨q51161, fp51161⟩ := q51161
  obtain ⟨v51162, rfl, lv51162, uv51162, g51161, kk51161⟩ := q51161
  have k51161 := k51159.tr kk51161 (by decide)
  obtain ⟨v51163, ev51163, lv51163, uv51163⟩ := g51161.rd ad42 (show 60 < 66 by decide) rf42_60
  rw [ev51163] at fp51161
  show jEv _ _ _ _ _ _ _ (_, [(2, 42), (0, a1), (0, a2)], [(0, v51162)], _, _, _)
  refine ev_aload_n rfl ?_
  refine g_getp (r := 42) (c := 61) g51161 ad42 (by decide) (by decide) rf42_30 ft12_30 ?_
  refine ev_iload_n rfl ?_
  refine g_iald g51161 ad61 rt61 (by omega) (by omega) (fun v51164 ev51164 lv51164 uv51164 => ?_)
  refine g_iaddG (fun v51165 ev51165 lv51165 uv51165 => ?_)
  exact ev_ret rfl (by decide) (by decide) ⟨⟨_, rfl, by omega, by omega, g51161, k51161⟩, Int.le_trans (Int.le_of_eq (ev51163)) (by omega)⟩
/-! 359 pays -/
set_option maxHeartbeats 4000000 in
theorem s359 {G : GH} {h : JH} (g : Gd G h) {a1 : Int} (la1 : 0 ≤ a1) (ua1 : a1 ≤ 19) {a2 : Int} (la2 : (-2147483648) ≤ a2) (ua2 : a2 ≤ 2147483647) {w0 : Int} (ew0 : h.2.2 42 60 = w0) (lw0 : 0 ≤ w0) (uw0 : w0 ≤ 997) : jOk 4 0 0 359 [(2, 42), (0, a1), (0, a2)] h (fun v h' => PI G [(42, 61), (78, 0)] h 0 (-2147483648) 2147483647 v h' ∧ h'.2.2 42 60 ≤ w0 + 3) := by
  refine ⟨by decide, by rw [ml359]; exact Nat.le_of_ble_eq_true rfl, ?_⟩
  rw [ml359, pp359]
  show jEv _ none _ c359_0 0 0 _ (c359_0, [(2, 42), (0, a1), (0, a2)], [], h, 0, 0)
  have k0 := Kp.rf [(42, 61), (78, 0)] h
  refine ev_aload_n rfl ?_
  refine g_getp (r := 42) (c := 60) g ad42 (by decide) (by decide) rf42_29 ft12_29 ?_
  refine ev_iload_n rfl ?_
  refine g_iald g ad60 rt60 (by omega) (by omega) (fun v51196 ev51196 lv51196 uv51196 => ?_)
  refine ev_iconst ?_
  refine ev_icmpne f359_24 (fun c51197 => ?_) (fun c51197 => ?_)
  · refine ev_aload_n rfl ?_
    refine g_getp (r := 42) (c := 60) g ad42 (by decide) (by decide) rf42_29 ft12_29 ?_
    refine ev_iload_n rfl ?_
    refine g_ialdv (v := v51196) g ad60 (by omega) (by omega) (ev51196) ?_
    refine ev_iconst ?_
    refine ev_icmpne f359_43 (fun c51198 => ?_) (fun c51198 => ?_)
    · refine ev_aload_n rfl ?_
      refine ev_iload_n rfl ?_
      refine ev_iload_n rfl ?_
      refine ev_call (jcall_v (A := [(0, a2), (0, a1)]) (S' := []) (r := 42) rfl (g.lt ad42) (g.tg ad42) (Nat.le_of_ble_eq_true rfl)) (jOk_le (by decide) (s357 g (by omega) (by omega) (by omega) (by omega) (ew0) (by omega) (by omega))) (by decide) (by decide) (fun w51199 h51199 q51199 => ?_)
      obtain ⟨q51199, fp51199⟩ := q51199
      obtain ⟨v51200, rfl, lv51200, uv51200, g51199, kk51199⟩ := q51199
      have k51199 := k0.tr kk51199 (by decide)
      obtain ⟨v51201, ev51201, lv51201, uv51201⟩ := g51199.rd ad42 (show 60 < 66 by decide) rf42_60
      rw [ev51201] at fp51199
      show jEv _ _ _ _ _ _ _ (_, [(2, 42), (0, a1), (0, a2)], [(0, v51200)], _, _, _)
      exact ev_ret rfl (by decide) (by decide) ⟨⟨_, rfl, by omega, by omega, g51199, k51199⟩, Int.le_trans (Int.le_of_eq (ev51201)) (by omega)⟩
    · refine ev_aload_n rfl ?_
      refine ev_iload_n rfl ?_
      refine ev_iload_n rfl ?_
      refine ev_call (jcall_v (A := [(0, a2), (0, a1)]) (S' := []) (r := 42) rfl (g.lt ad42) (g.tg ad42) (Nat.le_of_ble_eq_true rfl)) (jOk_le (by decide) (s358 g (by omega) (by omega) (by omega) (by omega) (ew0) (by omega) (by omega))) (by decide) (by decide) (fun w51202 h51202 q51202 => ?_)
      obtain ⟨q51202, fp51202⟩ := q51202
      obtain ⟨v51203, rfl, lv51203, uv51203, g51202, kk51202⟩ := q51202
      have k51202 := k0.tr kk51202 (by decide)
      obtain ⟨v51204, ev51204, lv51204, uv51204⟩ := g51202.rd ad42 (show 60 < 66 by decide) rf42_60
      rw [ev51204] at fp51202
      show jEv _ _ _ _ _ _ _ (_, [(2, 42), (0, a1), (0, a2)], [(0, v51203)], _, _, _)
      refine ev_goto f359_49 ?_
      exact ev_ret rfl (by decide) (by decide) ⟨⟨_, rfl, by omega, by omega, g51202, k51202⟩, Int.le_trans (Int.le_of_eq (ev51204)) (by omega)⟩
  · refine ev_aload_n rfl ?_
    refine ev_bipush ?_
    refine ev_call (jcall_v (A := [(0, 60)]) (S' := []) (r := 42) rfl (g.lt ad42) (g.tg ad42) (Nat.le_of_ble_eq_true rfl)) (jOk_le (by decide) (s356 g (by omega) (by omega) (ew0) (by omega) (by omega))) (by decide) (by decide) (fun w51205 h51205 q51205 => ?_)
    obtain ⟨q51205, fp51205⟩ := q51205
    obtain ⟨rfl, g51205, kk51205⟩ := q51205
    have k51205 := k0.tr kk51205 (by decide)
    obtain ⟨v51206, ev51206, lv51206, uv51206⟩ := g51205.rd ad42 (show 60 < 66 by decide) rf42_60
    rw [ev51206] at fp51205
    show jEv _ _ _ _ _ _ _ (_, [(2, 42), (0, a1), (0, a2)], [], _, _, _)
    refine ev_aload_n rfl ?_
    refine ev_iload_n rfl ?_
    refine ev_iload_n rfl ?_
    refine ev_call (jcall_v (A := [(0, a2), (0, a1)]) (S' := []) (r := 42) rfl (g51205.lt ad42) (g51205.tg ad42) (Nat.le_of_ble_eq_true rfl)) (jOk_le (by decide) (s358 g51205 (by omega) (by omega) (by omega) (by omega) (ev51206) (by omega) (by omega))) (by decide) (by decide) (fun w51207 h51207 q51207 => ?_)
    obtain ⟨q51207, fp51207⟩ := q51207
    obtain ⟨v51208, rfl, lv51208, uv51208, g51207, kk51207⟩ := q51207
    have k51207 := k51205.tr kk51207 (by decide)
    obtain ⟨v51209, ev51209, lv51209, uv51209⟩ := g51207.rd ad42 (show 60 < 66 by decide) rf42_60
    rw [ev51209] at fp51207
    show jEv _ _ _ _ _ _ _ (_, [(2, 42), (0, a1), (0, a2)], [(0, v51208)], _, _, _)
    refine g_inegG (fun v51210 ev51210 lv51210 uv51210 => ?_)
    exact ev_ret rfl (by decide) (by decide) ⟨⟨_, rfl, by omega, by omega, g51207, k51207⟩, Int.le_trans (Int.le_of_eq (ev51209)) (by omega)⟩
/-! 360 plainFeels -/
set_option maxHeartbeats 4000000 in
theorem s360 {G : GH} {h : JH} (g : Gd G h) {a1 : Int} (la1 : 0 ≤ a1) (ua1 : a1 ≤ 19) {a2 : Int} (la2 : (-2147483648) ≤ a2) (ua2 : a2 ≤ 2147483647) {w0 : Int} (ew0 : h.2.2 42 60 = w0) (lw0 : 0 ≤ w0) (uw0 : w0 ≤ 996) : jOk 5 0 0 360 [(2, 42), (0, a1), (0, a2)] h (fun v h' => PI G [(42, 61), (78, 0)] h 0 (-2147483648) 2147483647 v h' ∧ h'.2.2 42 60 ≤ w0 + 4) := by
  refine ⟨by decide, by rw [ml360]; exact Nat.le_of_ble_eq_true rfl, ?_⟩
  rw [ml360, pp360]
  show jEv _ none _ c360_0 0 0 _ (c360_0, [(2, 42), (0, a1), (0, a2)], [], h, 0, 0)
  have k0 := Kp.rf [(42, 61), (78, 0)] h
  refine ev_aload_n rfl ?_
  refine ev_bipush ?_
  refine ev_call (jcall_v (A := [(0, 10)]) (S' := []) (r := 42) rfl (g.lt ad42) (g.tg ad42) (Nat.le_of_ble_eq_true rfl)) (jOk_le (by decide) (s356 g (by omega) (by omega) (ew0) (by omega) (by omega))) (by decide) (by decide) (fun w51223 h51223 q51223 => ?_)
  obtain ⟨q51223, fp51223⟩ := q51223
  obtain ⟨rfl, g51223, kk51223⟩ := q51223
  have k51223 := k0.tr kk51223 (by decide)
  obtain ⟨v51224, ev51224, lv51224, uv51224⟩ := g51223.rd ad42 (show 60 < 66 by decide) rf42_60
  rw [ev51224] at fp51223
  show jEv _ _ _ _ _ _ _ (_, [(2, 42), (0, a1), (0, a2)], [], _, _, _)
  refine ev_aload_n rfl ?_
  refine ev_iload_n rfl ?_
  refine ev_iload_n rfl ?_
  refine ev_call (jcall_v (A := [(0, a2), (0, a1)]) (S' := []) (r := 42) rfl (g51223.lt ad42) (g51223.tg ad42) (Nat.le_of_ble_eq_true rfl)) (jOk_le (by decide) (s359 g51223 (by omega) (by omega) (by omega) (by omega) (ev51224) (by omega) (by omega))) (by decide) (by decide) (fun w51225 h51225 q51225 => ?_)
  obtain ⟨q51225, fp51225⟩ := q51225
  obtain ⟨v51226, rfl, lv51226, uv51226, g51225, kk51225⟩ := q51225
  have k51225 := k51223.tr kk51225 (by decide)
  obtain ⟨v51227, ev51227, lv51227, uv51227⟩ := g51225.rd ad42 (show 60 < 66 by decide) rf42_60
  rw [ev51227] at fp51225
  show jEv _ _ _ _ _ _ _ (_, [(2, 42), (0, a1), (0, a2)], [(0, v51226)], _, _, _)
  refine ev_iconst ?_
  refine g_imulG (fun v51228 ev51228 lv51228 uv51228 => ?_)
  exact ev_ret rfl (by decide) (by decide) ⟨⟨_, rfl, by omega, by omega, g51225, k51225⟩, Int.le_trans (Int.le_of_eq (ev51227)) (by omega)⟩
/-! 361 feltFeels -/
set_option maxHeartbeats 4000000 in
theorem s361 {G : GH} {h : JH} (g : Gd G h) {a1 : Int} (la1 : 0 ≤ a1) (ua1 : a1 ≤ 19) {a2 : Int} (la2 : (-2147483648) ≤ a2) (ua2 : a2 ≤ 2147483647) {w0 : Int} (ew0 : h.2.2 42 60 = w0) (lw0 : 0 ≤ w0) (uw0 : w0 ≤ 995) : jOk 6 0 0 361 [(2, 42), (0, a1), (0, a2)] h (fun v h' => PI G [(42, 61), (78, 0)] h 0 (-2147483648) 2147483647 v h' ∧ h'.2.2 42 60 ≤ w0 + 5) := by
  refine ⟨by decide, by rw [ml361]; exact Nat.le_of_ble_eq_true rfl, ?_⟩
  rw [ml361, pp361]
  show jEv _ none _ c361_0 0 0 _ (c361_0, [(2, 42), (0, a1), (0, a2)], [], h, 0, 0)
  have k0 := Kp.rf [(42, 61), (78, 0)] h
  refine ev_aload_n rfl ?_
  refine ev_bipush ?_
  refine ev_call (jcall_v (A := [(0, 20)]) (S' := []) (r := 42) rfl (g.lt ad42) (g.tg ad42) (Nat.le_of_ble_eq_true rfl)) (jOk_le (by decide) (s356 g (by omega) (by omega) (ew0) (by omega) (by omega))) (by decide) (by decide) (fun w51241 h51241 q51241 => ?_)
  obtain ⟨q51241, fp51241⟩ := q51241
  obtain ⟨rfl, g51241, kk51241⟩ := q51241
  have k51241 := k0.tr kk51241 (by decide)
  obtain ⟨v51242, ev51242, lv51242, uv51242⟩ := g51241.rd ad42 (show 60 < 66 by decide) rf42_60
  rw [ev51242] at fp51241
  show jEv _ _ _ _ _ _ _ (_, [(2, 42), (0, a1), (0, a2)], [], _, _, _)
  refine ev_aload_n rfl ?_
  refine ev_iload_n rfl ?_
  refine ev_iload_n rfl ?_
  refine ev_call (jcall_v (A := [(0, a2), (0, a1)]) (S' := []) (r := 42) rfl (g51241.lt ad42) (g51241.tg ad42) (Nat.le_of_ble_eq_true rfl)) (jOk_le (by decide) (s360 g51241 (by omega) (by omega) (by omega) (by omega) (ev51242) (by omega) (by omega))) (by decide) (by decide) (fun w51243 h51243 q51243 => ?_)
  obtain ⟨q51243, fp51243⟩ := q51243
  obtain ⟨v51244, rfl, lv51244, uv51244, g51243, kk51243⟩ := q51243
  have k51243 := k51241.tr kk51243 (by decide)
  obtain ⟨v51245, ev51245, lv51245, uv51245⟩ := g51243.rd ad42 (show 60 < 66 by decide) rf42_60
  rw [ev51245] at fp51243
  show jEv _ _ _ _ _ _ _ (_, [(2, 42), (0, a1), (0, a2)], [(0, v51244)], _, _, _)
  refine ev_iconst ?_
  refine g_isubG (fun v51246 ev51246 lv51246 uv51246 => ?_)
  exact ev_ret rfl (by decide) (by decide) ⟨⟨_, rfl, by omega, by omega, g51243, k51243⟩, Int.le_trans (Int.le_of_eq (ev51245)) (by omega)⟩
/-! 363 plainFears -/
set_option maxHeartbeats 4000000 in
theorem s363 {G : GH} {h : JH} (g : Gd G h) {a1 : Int} (la1 : 0 ≤ a1) (ua1 : a1 ≤ 19) {a2 : Int} (la2 : (-2147483648) ≤ a2) (ua2 : a2 ≤ 2147483647) {w0 : Int} (ew0 : h.2.2 42 60 = w0) (lw0 : 0 ≤ w0) (uw0 : w0 ≤ 999) : jOk 2 0 0 363 [(2, 42), (0, a1), (0, a2)] h (fun v h' => PI G [(42, 61), (78, 0)] h 0 (-2147483648) 2147483647 v h' ∧ h'.2.2 42 60 ≤ w0 + 1) := by
  refine ⟨by decide, by rw [ml363]; exact Nat.le_of_ble_eq_true rfl, ?_⟩
  rw [ml363, pp363]
  show jEv _ none _ c363_0 0 0 _ (c363_0, [(2, 42), (0, a1), (0, a2)], [], h, 0, 0)
  have k0 := Kp.rf [(42, 61), (78, 0)] h
  refine ev_aload_n rfl ?_
  refine ev_bipush ?_
  refine ev_call (jcall_v (A := [(0, 11)]) (S' := []) (r := 42) rfl (g.lt ad42) (g.tg ad42) (Nat.le_of_ble_eq_true rfl)) (jOk_le (by decide) (s356 g (by omega) (by omega) (ew0) (by omega) (by omega))) (by decide) (by decide) (fun w51253 h51253 q51253 => ?_)
  obtain ⟨q51253, fp51253⟩ := q51253
  obtain ⟨rfl, g51253, kk51253⟩ := q51253
  have k51253 := k0.tr kk51253 (by decide)
  obtain ⟨v51254, ev51254, lv51254, uv51254⟩ := g51253.rd ad42 (show 60 < 66 by decide) rf42_60
  rw [ev51254] at fp51253
  show jEv _ _ _ _ _ _ _ (_, [(2, 42), (0, a1), (0, a2)], [], _, _, _)
  refine ev_iload_n rfl ?_
  refine ev_iload_n rfl ?_
  refine g_ixorG (fun v51255 ev51255 lv51255 uv51255 => ?_)
  exact ev_ret rfl (by decide) (by decide) ⟨⟨_, rfl, by omega, by omega, g51253, k51253⟩, Int.le_trans (Int.le_of_eq (ev51254)) (by omega)⟩
/-! 364 fears -/
set_option maxHeartbeats 4000000 in
theorem s364 {G : GH} {h : JH} (g : Gd G h) {a1 : Int} (la1 : 0 ≤ a1) (ua1 : a1 ≤ 19) {a2 : Int} (la2 : (-2147483648) ≤ a2) (ua2 : a2 ≤ 2147483647) {w0 : Int} (ew0 : h.2.2 42 60 = w0) (lw0 : 0 ≤ w0) (uw0 : w0 ≤ 995) : jOk 5 0 0 364 [(2, 42), (0, a1), (0, a2)] h (fun v h' => PI G [(42, 61), (78, 0)] h 0 (-2147483648) 2147483647 v h' ∧ h'.2.2 42 60 ≤ w0 + 5) := by
  refine ⟨by decide, by rw [ml364]; exact Nat.le_of_ble_eq_true rfl, ?_⟩
  rw [ml364, pp364]
  show jEv _ none _ c364_0 0 0 _ (c364_0, [(2, 42), (0, a1), (0, a2), (9, 0)], [], h, 0, 0)
  have k0 := Kp.rf [(42, 61), (78, 0)] h
  refine ev_aload_n rfl ?_
  refine g_getp (r := 42) (c := 60) g ad42 (by decide) (by decide) rf42_29 ft12_29 ?_
  refine ev_iload_n rfl ?_
  refine g_iald g ad60 rt60 (by omega) (by omega) (fun v51298 ev51298 lv51298 uv51298 => ?_)
  refine ev_iconst ?_
  refine ev_icmpne f364_25 (fun c51299 => ?_) (fun c51299 => ?_)
  · refine ev_aload_n rfl ?_
    refine g_getp (r := 42) (c := 60) g ad42 (by decide) (by decide) rf42_29 ft12_29 ?_
    refine ev_iload_n rfl ?_
    refine g_ialdv (v := v51298) g ad60 (by omega) (by omega) (ev51298) ?_
    refine ev_iconst ?_
    refine ev_icmpne f364_57 (fun c51300 => ?_) (fun c51300 => ?_)
    · refine ev_aload_n rfl ?_
      refine ev_iload_n rfl ?_
      refine ev_iload_n rfl ?_
      refine ev_call (jcall_v (A := [(0, a2), (0, a1)]) (S' := []) (r := 42) rfl (g.lt ad42) (g.tg ad42) (Nat.le_of_ble_eq_true rfl)) (jOk_le (by decide) (s363 g (by omega) (by omega) (by omega) (by omega) (ew0) (by omega) (by omega))) (by decide) (by decide) (fun w51301 h51301 q51301 => ?_)
      obtain ⟨q51301, fp51301⟩ := q51301
      obtain ⟨v51302, rfl, lv51302, uv51302, g51301, kk51301⟩ := q51301
      have k51301 := k0.tr kk51301 (by decide)
      obtain ⟨v51303, ev51303, lv51303, uv51303⟩ := g51301.rd ad42 (show 60 < 66 by decide) rf42_60
      rw [ev51303] at fp51301
      show jEv _ _ _ _ _ _ _ (_, [(2, 42), (0, a1), (0, a2), (9, 0)], [(0, v51302)], _, _, _)
      exact ev_ret rfl (by decide) (by decide) ⟨⟨_, rfl, by omega, by omega, g51301, k51301⟩, Int.le_trans (Int.le_of_eq (ev51303)) (by omega)⟩
    · refine ev_aload_n rfl ?_
      refine ev_bipush ?_
      refine ev_call (jcall_v (A := [(0, 61)]) (S' := []) (r := 42) rfl (g.lt ad42) (g.tg ad42) (Nat.le_of_ble_eq_true rfl)) (jOk_le (by decide) (s356 g (by omega) (by omega) (ew0) (by omega) (by omega))) (by decide) (by decide) (fun w51304 h51304 q51304 => ?_)
      obtain ⟨q51304, fp51304⟩ := q51304
      obtain ⟨rfl, g51304, kk51304⟩ := q51304
      have k51304 := k0.tr kk51304 (by decide)
      obtain ⟨v51305, ev51305, lv51305, uv51305⟩ := g51304.rd ad42 (show 60 < 66 by decide) rf42_60
      rw [ev51305] at fp51304
      show jEv _ _ _ _ _ _ _ (_, [(2, 42), (0, a1), (0, a2), (9, 0)], [], _, _, _)
      refine ev_aload_n rfl ?_
      refine ev_iload_n rfl ?_
      refine ev_iload_n rfl ?_
      refine ev_call (jcall_v (A := [(0, a2), (0, a1)]) (S' := []) (r := 42) rfl (g51304.lt ad42) (g51304.tg ad42) (Nat.le_of_ble_eq_true rfl)) (jOk_le (by decide) (s363 g51304 (by omega) (by omega) (by omega) (by omega) (ev51305) (by omega) (by omega))) (by decide) (by decide) (fun w51306 h51306 q51306 => ?_)
      obtain ⟨q51306, fp51306⟩ := q51306
      obtain ⟨v51307, rfl, lv51307, uv51307, g51306, kk51306⟩ := q51306
      have k51306 := k51304.tr kk51306 (by decide)
      obtain ⟨v51308, ev51308, lv51308, uv51308⟩ := g51306.rd ad42 (show 60 < 66 by decide) rf42_60
      rw [ev51308] at fp51306
      show jEv _ _ _ _ _ _ _ (_, [(2, 42), (0, a1), (0, a2), (9, 0)], [(0, v51307)], _, _, _)
      refine ev_istore_n (L' := [(2, 42), (0, a1), (0, a2), (0, v51307)]) (Nat.le_of_ble_eq_true rfl) rfl ?_
      refine ev_iload_n rfl ?_
      refine ev_aload_n rfl ?_
      refine ev_iload_n rfl ?_
      refine ev_iconst ?_
      refine ev_call (jcall_v (A := [(0, 1), (0, a1)]) (S' := [(0, v51307)]) (r := 42) rfl (g51306.lt ad42) (g51306.tg ad42) (Nat.le_of_ble_eq_true rfl)) (jOk_le (by decide) (s359 g51306 (by omega) (by omega) (by omega) (by omega) (ev51308) (by omega) (by omega))) (by decide) (by decide) (fun w51309 h51309 q51309 => ?_)
      obtain ⟨q51309, fp51309⟩ := q51309
      obtain ⟨v51310, rfl, lv51310, uv51310, g51309, kk51309⟩ := q51309
      have k51309 := k51306.tr kk51309 (by decide)
      obtain ⟨v51311, ev51311, lv51311, uv51311⟩ := g51309.rd ad42 (show 60 < 66 by decide) rf42_60
      rw [ev51311] at fp51309
      show jEv _ _ _ _ _ _ _ (_, [(2, 42), (0, a1), (0, a2), (0, v51307)], [(0, v51310), (0, v51307)], _, _, _)
      refine g_iaddG (fun v51312 ev51312 lv51312 uv51312 => ?_)
      exact ev_ret rfl (by decide) (by decide) ⟨⟨_, rfl, by omega, by omega, g51309, k51309⟩, Int.le_trans (Int.le_of_eq (ev51311)) (by omega)⟩
  · refine ev_aload_n rfl ?_
    refine ev_bipush ?_
    refine ev_call (jcall_v (A := [(0, 30)]) (S' := []) (r := 42) rfl (g.lt ad42) (g.tg ad42) (Nat.le_of_ble_eq_true rfl)) (jOk_le (by decide) (s356 g (by omega) (by omega) (ew0) (by omega) (by omega))) (by decide) (by decide) (fun w51313 h51313 q51313 => ?_)
    obtain ⟨q51313, fp51313⟩ := q51313
    obtain ⟨rfl, g51313, kk51313⟩ := q51313
    have k51313 := k0.tr kk51313 (by decide)
    obtain ⟨v51314, ev51314, lv51314, uv51314⟩ := g51313.rd ad42 (show 60 < 66 by decide) rf42_60
    rw [ev51314] at fp51313
    show jEv _ _ _ _ _ _ _ (_, [(2, 42), (0, a1), (0, a2), (9, 0)], [], _, _, _)
    refine ev_aload_n rfl ?_
    refine ev_iload_n rfl ?_
    refine ev_iload_n rfl ?_
    refine ev_call (jcall_v (A := [(0, a2), (0, a1)]) (S' := []) (r := 42) rfl (g51313.lt ad42) (g51313.tg ad42) (Nat.le_of_ble_eq_true rfl)) (jOk_le (by decide) (s363 g51313 (by omega) (by omega) (by omega) (by omega) (ev51314) (by omega) (by omega))) (by decide) (by decide) (fun w51315 h51315 q51315 => ?_)
    obtain ⟨q51315, fp51315⟩ := q51315
    obtain ⟨v51316, rfl, lv51316, uv51316, g51315, kk51315⟩ := q51315
    have k51315 := k51313.tr kk51315 (by decide)
    obtain ⟨v51317, ev51317, lv51317, uv51317⟩ := g51315.rd ad42 (show 60 < 66 by decide) rf42_60
    rw [ev51317] at fp51315
    show jEv _ _ _ _ _ _ _ (_, [(2, 42), (0, a1), (0, a2), (9, 0)], [(0, v51316)], _, _, _)
    refine ev_iconst ?_
    refine g_imulG (fun v51318 ev51318 lv51318 uv51318 => ?_)
    exact ev_ret rfl (by decide) (by decide) ⟨⟨_, rfl, by omega, by omega, g51315, k51315⟩, Int.le_trans (Int.le_of_eq (ev51317)) (by omega)⟩
/-! 362 feels -/
set_option maxHeartbeats 4000000 in
theorem s362 {G : GH} {h : JH} (g : Gd G h) {a1 : Int} (la1 : 0 ≤ a1) (ua1 : a1 ≤ 19) {a2 : Int} (la2 : (-2147483648) ≤ a2) (ua2 : a2 ≤ 2147483647) {w0 : Int} (ew0 : h.2.2 42 60 = w0) (lw0 : 0 ≤ w0) (uw0 : w0 ≤ 989) : jOk 7 0 0 362 [(2, 42), (0, a1), (0, a2)] h (fun v h' => PI G [(42, 61), (78, 0)] h 0 (-2147483648) 2147483647 v h' ∧ h'.2.2 42 60 ≤ w0 + 11) := by
  refine ⟨by decide, by rw [ml362]; exact Nat.le_of_ble_eq_true rfl, ?_⟩
  rw [ml362, pp362]
  show jEv _ none _ c362_0 0 0 _ (c362_0, [(2, 42), (0, a1), (0, a2), (9, 0)], [], h, 0, 0)
  have k0 := Kp.rf [(42, 61), (78, 0)] h
  refine ev_aload_n rfl ?_
  refine g_getp (r := 42) (c := 60) g ad42 (by decide) (by decide) rf42_29 ft12_29 ?_
  refine ev_iload_n rfl ?_
  refine g_iald g ad60 rt60 (by omega) (by omega) (fun v51355 ev51355 lv51355 uv51355 => ?_)
  refine ev_iconst ?_
  refine ev_icmpne f362_32 (fun c51356 => ?_) (fun c51356 => ?_)
  · refine ev_aload_n rfl ?_
    refine g_getp (r := 42) (c := 60) g ad42 (by decide) (by decide) rf42_29 ft12_29 ?_
    refine ev_iload_n rfl ?_
    refine g_ialdv (v := v51355) g ad60 (by omega) (by omega) (ev51355) ?_
    refine ev_iconst ?_
    refine ev_icmpne f362_51 (fun c51357 => ?_) (fun c51357 => ?_)
    · refine ev_aload_n rfl ?_
      refine ev_iload_n rfl ?_
      refine ev_iload_n rfl ?_
      refine ev_call (jcall_v (A := [(0, a2), (0, a1)]) (S' := []) (r := 42) rfl (g.lt ad42) (g.tg ad42) (Nat.le_of_ble_eq_true rfl)) (jOk_le (by decide) (s360 g (by omega) (by omega) (by omega) (by omega) (ew0) (by omega) (by omega))) (by decide) (by decide) (fun w51358 h51358 q51358 => ?_)
      obtain ⟨q51358, fp51358⟩ := q51358
      obtain ⟨v51359, rfl, lv51359, uv51359, g51358, kk51358⟩ := q51358
      have k51358 := k0.tr kk51358 (by decide)
      obtain ⟨v51360, ev51360, lv51360, uv51360⟩ := g51358.rd ad42 (show 60 < 66 by decide) rf42_60
      rw [ev51360] at fp51358
      show jEv _ _ _ _ _ _ _ (_, [(2, 42), (0, a1), (0, a2), (9, 0)], [(0, v51359)], _, _, _)
      exact ev_ret rfl (by decide) (by decide) ⟨⟨_, rfl, by omega, by omega, g51358, k51358⟩, Int.le_trans (Int.le_of_eq (ev51360)) (by omega)⟩
    · refine ev_aload_n rfl ?_
      refine ev_iload_n rfl ?_
      refine ev_iload_n rfl ?_
      refine ev_call (jcall_v (A := [(0, a2), (0, a1)]) (S' := []) (r := 42) rfl (g.lt ad42) (g.tg ad42) (Nat.le_of_ble_eq_true rfl)) (jOk_le (by decide) (s361 g (by omega) (by omega) (by omega) (by omega) (ew0) (by omega) (by omega))) (by decide) (by decide) (fun w51361 h51361 q51361 => ?_)
      obtain ⟨q51361, fp51361⟩ := q51361
      obtain ⟨v51362, rfl, lv51362, uv51362, g51361, kk51361⟩ := q51361
      have k51361 := k0.tr kk51361 (by decide)
      obtain ⟨v51363, ev51363, lv51363, uv51363⟩ := g51361.rd ad42 (show 60 < 66 by decide) rf42_60
      rw [ev51363] at fp51361
      show jEv _ _ _ _ _ _ _ (_, [(2, 42), (0, a1), (0, a2), (9, 0)], [(0, v51362)], _, _, _)
      refine ev_goto f362_57 ?_
      exact ev_ret rfl (by decide) (by decide) ⟨⟨_, rfl, by omega, by omega, g51361, k51361⟩, Int.le_trans (Int.le_of_eq (ev51363)) (by omega)⟩
  · refine ev_aload_n rfl ?_
    refine ev_bipush ?_
    refine ev_call (jcall_v (A := [(0, 40)]) (S' := []) (r := 42) rfl (g.lt ad42) (g.tg ad42) (Nat.le_of_ble_eq_true rfl)) (jOk_le (by decide) (s356 g (by omega) (by omega) (ew0) (by omega) (by omega))) (by decide) (by decide) (fun w51364 h51364 q51364 => ?_)
    obtain ⟨q51364, fp51364⟩ := q51364
    obtain ⟨rfl, g51364, kk51364⟩ := q51364
    have k51364 := k0.tr kk51364 (by decide)
    obtain ⟨v51365, ev51365, lv51365, uv51365⟩ := g51364.rd ad42 (show 60 < 66 by decide) rf42_60
    rw [ev51365] at fp51364
    show jEv _ _ _ _ _ _ _ (_, [(2, 42), (0, a1), (0, a2), (9, 0)], [], _, _, _)
    refine ev_aload_n rfl ?_
    refine ev_iload_n rfl ?_
    refine ev_iload_n rfl ?_
    refine ev_call (jcall_v (A := [(0, a2), (0, a1)]) (S' := []) (r := 42) rfl (g51364.lt ad42) (g51364.tg ad42) (Nat.le_of_ble_eq_true rfl)) (jOk_le (by decide) (s361 g51364 (by omega) (by omega) (by omega) (by omega) (ev51365) (by omega) (by omega))) (by decide) (by decide) (fun w51366 h51366 q51366 => ?_)
    obtain ⟨q51366, fp51366⟩ := q51366
    obtain ⟨v51367, rfl, lv51367, uv51367, g51366, kk51366⟩ := q51366
    have k51366 := k51364.tr kk51366 (by decide)
    obtain ⟨v51368, ev51368, lv51368, uv51368⟩ := g51366.rd ad42 (show 60 < 66 by decide) rf42_60
    rw [ev51368] at fp51366
    show jEv _ _ _ _ _ _ _ (_, [(2, 42), (0, a1), (0, a2), (9, 0)], [(0, v51367)], _, _, _)
    refine ev_istore_n (L' := [(2, 42), (0, a1), (0, a2), (0, v51367)]) (Nat.le_of_ble_eq_true rfl) rfl ?_
    refine ev_iload_n rfl ?_
    refine ev_aload_n rfl ?_
    refine ev_iload_n rfl ?_
    refine ev_iconst ?_
    refine ev_call (jcall_v (A := [(0, 2), (0, a1)]) (S' := [(0, v51367)]) (r := 42) rfl (g51366.lt ad42) (g51366.tg ad42) (Nat.le_of_ble_eq_true rfl)) (jOk_le (by decide) (s364 g51366 (by omega) (by omega) (by omega) (by omega) (ev51368) (by omega) (by omega))) (by decide) (by decide) (fun w51369 h51369 q51369 => ?_)
    obtain ⟨q51369, fp51369⟩ := q51369
    obtain ⟨v51370, rfl, lv51370, uv51370, g51369, kk51369⟩ := q51369
    have k51369 := k51366.tr kk51369 (by decide)
    obtain ⟨v51371, ev51371, lv51371, uv51371⟩ := g51369.rd ad42 (show 60 < 66 by decide) rf42_60
    rw [ev51371] at fp51369
    show jEv _ _ _ _ _ _ _ (_, [(2, 42), (0, a1), (0, a2), (0, v51367)], [(0, v51370), (0, v51367)], _, _, _)
    refine g_iaddG (fun v51372 ev51372 lv51372 uv51372 => ?_)
    exact ev_ret rfl (by decide) (by decide) ⟨⟨_, rfl, by omega, by omega, g51369, k51369⟩, Int.le_trans (Int.le_of_eq (ev51371)) (by omega)⟩
/-! 365 plainTells -/
set_option maxHeartbeats 4000000 in
theorem s365 {G : GH} {h : JH} (g : Gd G h) {a1 : Int} (la1 : 0 ≤ a1) (ua1 : a1 ≤ 19) {a2 : Int} (la2 : (-2147483648) ≤ a2) (ua2 : a2 ≤ 2147483647) {w0 : Int} (ew0 : h.2.2 42 60 = w0) (lw0 : 0 ≤ w0) (uw0 : w0 ≤ 983) : jOk 8 0 0 365 [(2, 42), (0, a1), (0, a2)] h (fun v h' => PI G [(42, 61), (78, 0)] h 0 (-2147483648) 2147483647 v h' ∧ h'.2.2 42 60 ≤ w0 + 17) := by
  refine ⟨by decide, by rw [ml365]; exact Nat.le_of_ble_eq_true rfl, ?_⟩
  rw [ml365, pp365]
  show jEv _ none _ c365_0 0 0 _ (c365_0, [(2, 42), (0, a1), (0, a2), (9, 0)], [], h, 0, 0)
  have k0 := Kp.rf [(42, 61), (78, 0)] h
  refine ev_aload_n rfl ?_
  refine ev_iconst ?_
  refine ev_call (jcall_v (A := [(0, 2)]) (S' := []) (r := 42) rfl (g.lt ad42) (g.tg ad42) (Nat.le_of_ble_eq_true rfl)) (jOk_le (by decide) (s356 g (by omega) (by omega) (ew0) (by omega) (by omega))) (by decide) (by decide) (fun w51391 h51391 q51391 => ?_)
  obtain ⟨q51391, fp51391⟩ := q51391
  obtain ⟨rfl, g51391, kk51391⟩ := q51391
  have k51391 := k0.tr kk51391 (by decide)
  obtain ⟨v51392, ev51392, lv51392, uv51392⟩ := g51391.rd ad42 (show 60 < 66 by decide) rf42_60
  rw [ev51392] at fp51391
  show jEv _ _ _ _ _ _ _ (_, [(2, 42), (0, a1), (0, a2), (9, 0)], [], _, _, _)
  refine ev_aload_n rfl ?_
  refine ev_iload_n rfl ?_
  refine ev_iload_n rfl ?_
  refine ev_call (jcall_v (A := [(0, a2), (0, a1)]) (S' := []) (r := 42) rfl (g51391.lt ad42) (g51391.tg ad42) (Nat.le_of_ble_eq_true rfl)) (jOk_le (by decide) (s362 g51391 (by omega) (by omega) (by omega) (by omega) (ev51392) (by omega) (by omega))) (by decide) (by decide) (fun w51393 h51393 q51393 => ?_)
  obtain ⟨q51393, fp51393⟩ := q51393
  obtain ⟨v51394, rfl, lv51394, uv51394, g51393, kk51393⟩ := q51393
  have k51393 := k51391.tr kk51393 (by decide)
  obtain ⟨v51395, ev51395, lv51395, uv51395⟩ := g51393.rd ad42 (show 60 < 66 by decide) rf42_60
  rw [ev51395] at fp51393
  show jEv _ _ _ _ _ _ _ (_, [(2, 42), (0, a1), (0, a2), (9, 0)], [(0, v51394)], _, _, _)
  refine ev_istore_n (L' := [(2, 42), (0, a1), (0, a2), (0, v51394)]) (Nat.le_of_ble_eq_true rfl) rfl ?_
  refine ev_iload_n rfl ?_
  refine ev_aload_n rfl ?_
  refine ev_iload_n rfl ?_
  refine ev_iconst ?_
  refine ev_call (jcall_v (A := [(0, 1), (0, a1)]) (S' := [(0, v51394)]) (r := 42) rfl (g51393.lt ad42) (g51393.tg ad42) (Nat.le_of_ble_eq_true rfl)) (jOk_le (by decide) (s364 g51393 (by omega) (by omega) (by omega) (by omega) (ev51395) (by omega) (by omega))) (by decide) (by decide) (fun w51396 h51396 q51396 => ?_)
  obtain ⟨q51396, fp51396⟩ := q51396
  obtain ⟨v51397, rfl, lv51397, uv51397, g51396, kk51396⟩ := q51396
  have k51396 := k51393.tr kk51396 (by decide)
  obtain ⟨v51398, ev51398, lv51398, uv51398⟩ := g51396.rd ad42 (show 60 < 66 by decide) rf42_60
  rw [ev51398] at fp51396
  show jEv _ _ _ _ _ _ _ (_, [(2, 42), (0, a1), (0, a2), (0, v51394)], [(0, v51397), (0, v51394)], _, _, _)
  refine g_isubG (fun v51399 ev51399 lv51399 uv51399 => ?_)
  exact ev_ret rfl (by decide) (by decide) ⟨⟨_, rfl, by omega, by omega, g51396, k51396⟩, Int.le_trans (Int.le_of_eq (ev51398)) (by omega)⟩
/-! 366 tells -/
set_option maxHeartbeats 4000000 in
theorem s366 {G : GH} {h : JH} (g : Gd G h) {a1 : Int} (la1 : 0 ≤ a1) (ua1 : a1 ≤ 19) {a2 : Int} (la2 : (-2147483648) ≤ a2) (ua2 : a2 ≤ 2147483647) {w0 : Int} (ew0 : h.2.2 42 60 = w0) (lw0 : 0 ≤ w0) (uw0 : w0 ≤ 982) : jOk 9 0 0 366 [(2, 42), (0, a1), (0, a2)] h (fun v h' => PI G [(42, 61), (78, 0)] h 0 (-2147483648) 2147483647 v h' ∧ h'.2.2 42 60 ≤ w0 + 18) := by
  refine ⟨by decide, by rw [ml366]; exact Nat.le_of_ble_eq_true rfl, ?_⟩
  rw [ml366, pp366]
  show jEv _ none _ c366_0 0 0 _ (c366_0, [(2, 42), (0, a1), (0, a2)], [], h, 0, 0)
  have k0 := Kp.rf [(42, 61), (78, 0)] h
  refine ev_aload_n rfl ?_
  refine g_getp (r := 42) (c := 60) g ad42 (by decide) (by decide) rf42_29 ft12_29 ?_
  refine ev_iload_n rfl ?_
  refine g_iald g ad60 rt60 (by omega) (by omega) (fun v51422 ev51422 lv51422 uv51422 => ?_)
  refine ev_iconst ?_
  refine ev_icmpne f366_25 (fun c51423 => ?_) (fun c51423 => ?_)
  · refine ev_aload_n rfl ?_
    refine ev_iload_n rfl ?_
    refine ev_iload_n rfl ?_
    refine ev_call (jcall_v (A := [(0, a2), (0, a1)]) (S' := []) (r := 42) rfl (g.lt ad42) (g.tg ad42) (Nat.le_of_ble_eq_true rfl)) (jOk_le (by decide) (s365 g (by omega) (by omega) (by omega) (by omega) (ew0) (by omega) (by omega))) (by decide) (by decide) (fun w51424 h51424 q51424 => ?_)
    obtain ⟨q51424, fp51424⟩ := q51424
    obtain ⟨v51425, rfl, lv51425, uv51425, g51424, kk51424⟩ := q51424
    have k51424 := k0.tr kk51424 (by decide)
    obtain ⟨v51426, ev51426, lv51426, uv51426⟩ := g51424.rd ad42 (show 60 < 66 by decide) rf42_60
    rw [ev51426] at fp51424
    show jEv _ _ _ _ _ _ _ (_, [(2, 42), (0, a1), (0, a2)], [(0, v51425)], _, _, _)
    exact ev_ret rfl (by decide) (by decide) ⟨⟨_, rfl, by omega, by omega, g51424, k51424⟩, Int.le_trans (Int.le_of_eq (ev51426)) (by omega)⟩
  · refine ev_aload_n rfl ?_
    refine ev_bipush ?_
    refine ev_call (jcall_v (A := [(0, 41)]) (S' := []) (r := 42) rfl (g.lt ad42) (g.tg ad42) (Nat.le_of_ble_eq_true rfl)) (jOk_le (by decide) (s356 g (by omega) (by omega) (ew0) (by omega) (by omega))) (by decide) (by decide) (fun w51427 h51427 q51427 => ?_)
    obtain ⟨q51427, fp51427⟩ := q51427
    obtain ⟨rfl, g51427, kk51427⟩ := q51427
    have k51427 := k0.tr kk51427 (by decide)
    obtain ⟨v51428, ev51428, lv51428, uv51428⟩ := g51427.rd ad42 (show 60 < 66 by decide) rf42_60
    rw [ev51428] at fp51427
    show jEv _ _ _ _ _ _ _ (_, [(2, 42), (0, a1), (0, a2)], [], _, _, _)
    refine ev_aload_n rfl ?_
    refine ev_iload_n rfl ?_
    refine ev_iload_n rfl ?_
    refine ev_iconst ?_
    refine g_iaddG (fun v51429 ev51429 lv51429 uv51429 => ?_)
    refine ev_call (jcall_v (A := [(0, v51429), (0, a1)]) (S' := []) (r := 42) rfl (g51427.lt ad42) (g51427.tg ad42) (Nat.le_of_ble_eq_true rfl)) (jOk_le (by decide) (s365 g51427 (by omega) (by omega) (by omega) (by omega) (ev51428) (by omega) (by omega))) (by decide) (by decide) (fun w51430 h51430 q51430 => ?_)
    obtain ⟨q51430, fp51430⟩ := q51430
    obtain ⟨v51431, rfl, lv51431, uv51431, g51430, kk51430⟩ := q51430
    have k51430 := k51427.tr kk51430 (by decide)
    obtain ⟨v51432, ev51432, lv51432, uv51432⟩ := g51430.rd ad42 (show 60 < 66 by decide) rf42_60
    rw [ev51432] at fp51430
    show jEv _ _ _ _ _ _ _ (_, [(2, 42), (0, a1), (0, a2)], [(0, v51431)], _, _, _)
    exact ev_ret rfl (by decide) (by decide) ⟨⟨_, rfl, by omega, by omega, g51430, k51430⟩, Int.le_trans (Int.le_of_eq (ev51432)) (by omega)⟩
