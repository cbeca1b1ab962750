/-! 201 offer -/
set_option maxHeartbeats 4000000 in
theorem s201 {G : GH} {h : JH} (g : Gd G h) {a1 : Int} (la1 : (-2147483648) ≤ a1) (ua1 : a1 ≤ 2147483647) : jOk 2 0 0 201 [(2, 0), (0, a1)] h (PI G [(26, 8), (31, 0)] h 0 (-3) 4) := by
  refine ⟨by decide, by rw [ml201]; exact Nat.le_of_ble_eq_true rfl, ?_⟩
  rw [ml201, pp201]
  show jEv _ none _ c201_0 0 0 _ (c201_0, [(2, 0), (0, a1)], [], h, 0, 0)
  have k0 := Kp.rf [(26, 8), (31, 0)] h
  refine ev_iload_n rfl ?_
  refine ev_iflt f201_10 (fun c40544 => ?_) (fun c40544 => ?_)
  · refine ev_iconst ?_
    refine ev_goto f201_22 ?_
    exact ev_ret rfl (by decide) (by decide) ⟨_, rfl, by omega, by omega, g, k0⟩
  · refine ev_iload_n rfl ?_
    refine ev_bipush ?_
    refine ev_icmple f201_14 (fun c40545 => ?_) (fun c40545 => ?_)
    · refine ev_aload_n rfl ?_
      refine g_getp (r := 0) (c := 26) g ad0 (by decide) (by decide) rf0_11 ft11_11 ?_
      refine ev_iload_n rfl ?_
      refine ev_call (jcall_v (A := [(0, a1)]) (S' := []) (r := 26) rfl (g.lt ad26) (g.tg ad26) (Nat.le_of_ble_eq_true rfl)) (jOk_le (by decide) (s120 g (by omega) (by omega))) (by decide) (by decide) (fun w40546 h40546 q40546 => ?_)
      obtain ⟨v40547, rfl, lv40547, uv40547, g40546, kk40546⟩ := q40546
      have k40546 := k0.tr kk40546 (by decide)
      show jEv _ _ _ _ _ _ _ (_, [(2, 0), (0, a1)], [(0, v40547)], _, _, _)
      exact ev_ret rfl (by decide) (by decide) ⟨_, rfl, by omega, by omega, g40546, k40546⟩
    · refine ev_iconst ?_
      refine ev_goto f201_22 ?_
      exact ev_ret rfl (by decide) (by decide) ⟨_, rfl, by omega, by omega, g, k0⟩
/-! 202 holds -/
set_option maxHeartbeats 4000000 in
theorem s202 {G : GH} {h : JH} (g : Gd G h) {a1 : Int} (la1 : (-2147483648) ≤ a1) (ua1 : a1 ≤ 2147483647) {a2 : Int} (la2 : (-2147483648) ≤ a2) (ua2 : a2 ≤ 2147483647) : jOk 5 0 0 202 [(2, 0), (0, a1), (0, a2)] h (PI G [] h 0 (-2147483648) 2147483647) := by
  refine ⟨by decide, by rw [ml202]; exact Nat.le_of_ble_eq_true rfl, ?_⟩
  rw [ml202, pp202]
  show jEv _ none _ c202_0 0 0 _ (c202_0, [(2, 0), (0, a1), (0, a2)], [], h, 0, 0)
  have k0 := Kp.rf [] h
  refine ev_iload_n rfl ?_
  refine ev_iflt f202_19 (fun c40560 => ?_) (fun c40560 => ?_)
  · refine ev_iconst ?_
    refine ev_goto f202_32 ?_
    exact ev_ret rfl (by decide) (by decide) ⟨_, rfl, by omega, by omega, g, k0⟩
  · refine ev_iload_n rfl ?_
    refine ev_bipush ?_
    refine ev_icmpgt f202_19 (fun c40561 => ?_) (fun c40561 => ?_)
    · refine ev_iconst ?_
      refine ev_goto f202_32 ?_
      exact ev_ret rfl (by decide) (by decide) ⟨_, rfl, by omega, by omega, g, k0⟩
    · refine ev_iload_n rfl ?_
      refine ev_iflt f202_19 (fun c40562 => ?_) (fun c40562 => ?_)
      · refine ev_iconst ?_
        refine ev_goto f202_32 ?_
        exact ev_ret rfl (by decide) (by decide) ⟨_, rfl, by omega, by omega, g, k0⟩
      · refine ev_iload_n rfl ?_
        refine ev_iconst ?_
        refine ev_icmple f202_23 (fun c40563 => ?_) (fun c40563 => ?_)
        · refine ev_aload_n rfl ?_
          refine g_getp (r := 0) (c := 26) g ad0 (by decide) (by decide) rf0_11 ft11_11 ?_
          refine ev_iload_n rfl ?_
          refine ev_iload_n rfl ?_
          refine ev_call (jcall_v (A := [(0, a2), (0, a1)]) (S' := []) (r := 26) rfl (g.lt ad26) (g.tg ad26) (Nat.le_of_ble_eq_true rfl)) (jOk_le (by decide) (s122 g (by omega) (by omega) (by omega) (by omega))) (by decide) (by decide) (fun w40564 h40564 q40564 => ?_)
          obtain ⟨v40565, rfl, lv40565, uv40565, g40564, kk40564⟩ := q40564
          have k40564 := k0.tr kk40564 (by decide)
          show jEv _ _ _ _ _ _ _ (_, [(2, 0), (0, a1), (0, a2)], [(0, v40565)], _, _, _)
          exact ev_ret rfl (by decide) (by decide) ⟨_, rfl, by omega, by omega, g40564, k40564⟩
        · refine ev_iconst ?_
          refine ev_goto f202_32 ?_
          exact ev_ret rfl (by decide) (by decide) ⟨_, rfl, by omega, by omega, g, k0⟩
/-! 203 clear -/
set_option maxHeartbeats 4000000 in
theorem s203 {G : GH} {h : JH} (g : Gd G h)  : jOk 2 0 0 203 [(2, 0)] h (PI G [(26, 4), (26, 8)] h 0 0 3) := by
  refine ⟨by decide, by rw [ml203]; exact Nat.le_of_ble_eq_true rfl, ?_⟩
  rw [ml203, pp203]
  show jEv _ none _ c203_0 0 0 _ (c203_0, [(2, 0)], [], h, 0, 0)
  have k0 := Kp.rf [(26, 4), (26, 8)] h
  refine ev_aload_n rfl ?_
  refine g_getp (r := 0) (c := 26) g ad0 (by decide) (by decide) rf0_11 ft11_11 ?_
  refine ev_in (d := 0) (a := 0) (b := 0) (cd' := c121_0) (m := 2) (L0 := [(2, 26), (9, 0)]) (jcall_v (A := []) (S' := []) (r := 26) rfl (g.lt ad26) (g.tg ad26) (Nat.le_of_ble_eq_true rfl)) (by decide) ml121 pp121 (Nat.le_of_ble_eq_true rfl) rfl (by decide) (by decide) ?_
  refine ev_aload_n rfl ?_
  obtain ⟨v40572, ev40572, lv40572, uv40572⟩ := g.rd ad26 (show 3 < 15 by decide) rf26_3
  refine g_getv (r := 26) (v := v40572) g ad26 (by decide) ft9_3 ev40572 ?_
  refine ev_istore_n (L' := [(2, 26), (0, v40572)]) (Nat.le_of_ble_eq_true rfl) rfl ?_
  refine ev_aload_n rfl ?_
  refine ev_iconst ?_
  refine g_putf (r := 26) g ad26 (by decide) ft9_3 (by decide) (fun e => absurd e nz9_3) rf26_3 (by decide) (by omega) (by omega) (fun h40573 e40573 g40573 => ?_)
  have k40573 := k0.wr e40573 rfl
  refine ev_aload_n rfl ?_
  refine ev_iconst ?_
  refine g_putf (r := 26) g40573 ad26 (by decide) ft9_7 (by decide) (fun e => absurd e nz9_7) rf26_7 (by decide) (by omega) (by omega) (fun h40574 e40574 g40574 => ?_)
  have k40574 := k40573.wr e40574 rfl
  refine ev_iload_n rfl ?_
  refine ev_ret rfl (by decide) (by decide) ?_
  show jEv _ _ _ _ _ _ _ (_, [(2, 0)], [(0, v40572)], _, _, _)
  exact ev_ret rfl (by decide) (by decide) ⟨_, rfl, by omega, by omega, g40574, k40574⟩
/-! 204 effort -/
set_option maxHeartbeats 4000000 in
theorem s204 {G : GH} {h : JH} (g : Gd G h) {a1 : Int} (la1 : (-2147483648) ≤ a1) (ua1 : a1 ≤ 2147483647) {a2 : Int} (la2 : (-2147483648) ≤ a2) (ua2 : a2 ≤ 2147483647) : jOk 2 0 0 204 [(2, 0), (0, a1), (0, a2)] h (PI G [(26, 10), (32, 0), (33, 0)] h 0 (-3) 4) := by
  refine ⟨by decide, by rw [ml204]; exact Nat.le_of_ble_eq_true rfl, ?_⟩
  rw [ml204, pp204]
  show jEv _ none _ c204_0 0 0 _ (c204_0, [(2, 0), (0, a1), (0, a2)], [], h, 0, 0)
  have k0 := Kp.rf [(26, 10), (32, 0), (33, 0)] h
  refine ev_iload_n rfl ?_
  refine ev_iflt f204_20 (fun c40593 => ?_) (fun c40593 => ?_)
  · refine ev_iconst ?_
    refine ev_goto f204_33 ?_
    exact ev_ret rfl (by decide) (by decide) ⟨_, rfl, by omega, by omega, g, k0⟩
  · refine ev_iload_n rfl ?_
    refine ev_bipush ?_
    refine ev_icmpgt f204_20 (fun c40594 => ?_) (fun c40594 => ?_)
    · refine ev_iconst ?_
      refine ev_goto f204_33 ?_
      exact ev_ret rfl (by decide) (by decide) ⟨_, rfl, by omega, by omega, g, k0⟩
    · refine ev_iload_n rfl ?_
      refine ev_iflt f204_20 (fun c40595 => ?_) (fun c40595 => ?_)
      · refine ev_iconst ?_
        refine ev_goto f204_33 ?_
        exact ev_ret rfl (by decide) (by decide) ⟨_, rfl, by omega, by omega, g, k0⟩
      · refine ev_iload_n rfl ?_
        refine ev_bipush ?_
        refine ev_icmple f204_24 (fun c40596 => ?_) (fun c40596 => ?_)
        · refine ev_aload_n rfl ?_
          refine g_getp (r := 0) (c := 26) g ad0 (by decide) (by decide) rf0_11 ft11_11 ?_
          refine ev_iload_n rfl ?_
          refine ev_iload_n rfl ?_
          refine ev_in (d := 0) (a := 0) (b := 0) (cd' := c129_0) (m := 3) (L0 := [(2, 26), (0, a1), (0, a2)]) (jcall_v (A := [(0, a2), (0, a1)]) (S' := []) (r := 26) rfl (g.lt ad26) (g.tg ad26) (Nat.le_of_ble_eq_true rfl)) (by decide) ml129 pp129 (Nat.le_of_ble_eq_true rfl) rfl (by decide) (by decide) ?_
          refine ev_aload_n rfl ?_
          obtain ⟨v40597, ev40597, lv40597, uv40597⟩ := g.rd ad26 (show 9 < 15 by decide) rf26_9
          refine g_getv (r := 26) (v := v40597) g ad26 (by decide) ft9_9 ev40597 ?_
          refine ev_iconst ?_
          refine ev_icmplt f129_11 (fun c40598 => ?_) (fun c40598 => ?_)
          · refine ev_aload_n rfl ?_
            refine g_getp (r := 26) (c := 32) g ad26 (by decide) (by decide) rf26_10 ft9_10 ?_
            refine ev_aload_n rfl ?_
            refine g_getv (r := 26) (v := v40597) g ad26 (by decide) ft9_9 (ev40597) ?_
            refine ev_iload_n rfl ?_
            refine g_iast g ad32 rt32 (fun _ => rfl) (by omega) (by omega) (by omega) (by omega) (fun h40599 e40599 g40599 => ?_)
            have k40599 := k0.wr e40599 rfl
            refine ev_aload_n rfl ?_
            refine g_getp (r := 26) (c := 33) g40599 ad26 (by decide) (by decide) rf26_11 ft9_11 ?_
            refine ev_aload_n rfl ?_
            refine g_getv (r := 26) (v := v40597) g40599 ad26 (by decide) ft9_9 (((jw_ne e40599 (Or.inl (by decide))).trans ev40597)) ?_
            refine ev_iload_n rfl ?_
            refine g_iast g40599 ad33 rt33 (fun _ => rfl) (by omega) (by omega) (by omega) (by omega) (fun h40600 e40600 g40600 => ?_)
            have k40600 := k40599.wr e40600 rfl
            refine ev_aload_n rfl ?_
            refine ev_dup (by decide) ?_
            refine g_getv (r := 26) (v := v40597) g40600 ad26 (by decide) ft9_9 (((jw_ne e40600 (Or.inl (by decide))).trans ((jw_ne e40599 (Or.inl (by decide))).trans ev40597))) ?_
            refine ev_iconst ?_
            refine ev_iadd (r := (v40597 + 1)) (by unfold w32; omega) ?_
            refine g_putf (r := 26) g40600 ad26 (by decide) ft9_9 (by decide) (fun e => absurd e nz9_9) rf26_9 (by decide) (by omega) (by omega) (fun h40601 e40601 g40601 => ?_)
            have k40601 := k40600.wr e40601 rfl
            refine ev_aload_n rfl ?_
            refine g_getv (r := 26) (v := (v40597 + 1)) g40601 ad26 (by decide) ft9_9 ((jw_eq e40601)) ?_
            refine ev_ret rfl (by decide) (by decide) ?_
            show jEv _ _ _ _ _ _ _ (_, [(2, 0), (0, a1), (0, a2)], [(0, (v40597 + 1))], _, _, _)
            exact ev_ret rfl (by decide) (by decide) ⟨_, rfl, by omega, by omega, g40601, k40601⟩
          · refine ev_bipush ?_
            refine ev_ret rfl (by decide) (by decide) ?_
            show jEv _ _ _ _ _ _ _ (_, [(2, 0), (0, a1), (0, a2)], [(0, (-3))], _, _, _)
            exact ev_ret rfl (by decide) (by decide) ⟨_, rfl, by omega, by omega, g, k0⟩
        · refine ev_iconst ?_
          refine ev_goto f204_33 ?_
          exact ev_ret rfl (by decide) (by decide) ⟨_, rfl, by omega, by omega, g, k0⟩
/-! 205 hired -/
set_option maxHeartbeats 4000000 in
theorem s205 {G : GH} {h : JH} (g : Gd G h) {a1 : Int} (la1 : (-2147483648) ≤ a1) (ua1 : a1 ≤ 2147483647) {a2 : Int} (la2 : (-2147483648) ≤ a2) (ua2 : a2 ≤ 2147483647) : jOk 4 0 0 205 [(2, 0), (0, a1), (0, a2)] h (PI G [(26, 10)] h 0 (-2147483648) 2147483647) := by
  refine ⟨by decide, by rw [ml205]; exact Nat.le_of_ble_eq_true rfl, ?_⟩
  rw [ml205, pp205]
  show jEv _ none _ c205_0 0 0 _ (c205_0, [(2, 0), (0, a1), (0, a2), (9, 0)], [], h, 0, 0)
  have k0 := Kp.rf [(26, 10)] h
  refine ev_iload_n rfl ?_
  refine ev_iflt f205_21 (fun c40642 => ?_) (fun c40642 => ?_)
  · refine ev_iconst ?_
    exact ev_ret rfl (by decide) (by decide) ⟨_, rfl, by omega, by omega, g, k0⟩
  · refine ev_iload_n rfl ?_
    refine ev_sipush ?_
    refine ev_icmpgt f205_21 (fun c40643 => ?_) (fun c40643 => ?_)
    · refine ev_iconst ?_
      exact ev_ret rfl (by decide) (by decide) ⟨_, rfl, by omega, by omega, g, k0⟩
    · refine ev_iload_n rfl ?_
      refine ev_iconst ?_
      refine ev_icmplt f205_21 (fun c40644 => ?_) (fun c40644 => ?_)
      · refine ev_iconst ?_
        exact ev_ret rfl (by decide) (by decide) ⟨_, rfl, by omega, by omega, g, k0⟩
      · refine ev_iload_n rfl ?_
        refine ev_iconst ?_
        refine ev_icmple f205_23 (fun c40645 => ?_) (fun c40645 => ?_)
        · refine ev_iload_n rfl ?_
          refine ev_iconst ?_
          refine ev_icmpne f205_36 (fun c40646 => ?_) (fun c40646 => ?_)
          · refine ev_aload_n rfl ?_
            refine g_getp (r := 0) (c := 26) g ad0 (by decide) (by decide) rf0_11 ft11_11 ?_
            obtain ⟨v40647, ev40647, lv40647, uv40647⟩ := g.rd ad26 (show 9 < 15 by decide) rf26_9
            refine g_getv (r := 26) (v := v40647) g ad26 (by decide) ft9_9 ev40647 ?_
            refine ev_iconst ?_
            refine ev_icmpge f205_50 (fun c40648 => ?_) (fun c40648 => ?_)
            · refine ev_aload_n rfl ?_
              refine g_getp (r := 0) (c := 26) g ad0 (by decide) (by decide) rf0_11 ft11_11 ?_
              refine ev_iload_n rfl ?_
              refine ev_call (jcall_v (A := [(0, a1)]) (S' := []) (r := 26) rfl (g.lt ad26) (g.tg ad26) (Nat.le_of_ble_eq_true rfl)) (jOk_le (by decide) (s133 g (by omega) (by omega))) (by decide) (by decide) (fun w40649 h40649 q40649 => ?_)
              obtain ⟨v40650, rfl, lv40650, uv40650, g40649, kk40649⟩ := q40649
              have k40649 := k0.tr kk40649 (by decide)
              show jEv _ _ _ _ _ _ _ (_, [(2, 0), (0, a1), (0, a2), (9, 0)], [(0, v40650)], _, _, _)
              refine ev_istore_n (L' := [(2, 0), (0, a1), (0, a2), (0, v40650)]) (Nat.le_of_ble_eq_true rfl) rfl ?_
              refine ev_iload_n rfl ?_
              refine ev_ifne f205_65 (fun c40651 => ?_) (fun c40651 => ?_)
              · refine ev_iload_n rfl ?_
                refine ev_iconst ?_
                refine ev_icmpne f205_82 (fun c40652 => ?_) (fun c40652 => ?_)
                · refine ev_aload_n rfl ?_
                  refine g_getp (r := 0) (c := 26) g40649 ad0 (by decide) (by decide) rf0_11 ft11_11 ?_
                  refine ev_iload_n rfl ?_
                  refine ev_iload_n rfl ?_
                  refine ev_call (jcall_v (A := [(0, v40650), (0, a1)]) (S' := []) (r := 26) rfl (g40649.lt ad26) (g40649.tg ad26) (Nat.le_of_ble_eq_true rfl)) (jOk_le (by decide) (s132 g40649 (by omega) (by omega) (by omega) (by omega))) (by decide) (by decide) (fun w40653 h40653 q40653 => ?_)
                  obtain ⟨v40654, rfl, lv40654, uv40654, g40653, kk40653⟩ := q40653
                  have k40653 := k40649.tr kk40653 (by decide)
                  show jEv _ _ _ _ _ _ _ (_, [(2, 0), (0, a1), (0, a2), (0, v40650)], [(0, v40654)], _, _, _)
                  refine ev_i2l ?_
                  refine ev_ldc2_w ?_
                  refine ev_iload_n rfl ?_
                  refine ev_iconst ?_
                  refine ev_isub (r := (a2 - 2)) (by unfold w32; omega) ?_
                  refine ev_call (jcall_s (A := [(0, (a2 - 2)), (1, 10000), (1, v40654)]) (S' := []) (by decide) rfl (Nat.le_of_ble_eq_true rfl)) (jOk_le (by decide) (s223 g40653 (by omega) (by omega) (by omega) (by omega) (by omega) (by omega))) (by decide) (by decide) (fun w40655 h40655 q40655 => ?_)
                  obtain ⟨v40656, rfl, lv40656, uv40656, g40655, kk40655⟩ := q40655
                  have k40655 := k40653.tr kk40655 (by decide)
                  show jEv _ _ _ _ _ _ _ (_, [(2, 0), (0, a1), (0, a2), (0, v40650)], [(1, v40656)], _, _, _)
                  refine g_l2iG (fun v40657 ev40657 lv40657 uv40657 => ?_)
                  exact ev_ret rfl (by decide) (by decide) ⟨_, rfl, by omega, by omega, g40655, k40655⟩
                · refine ev_aload_n rfl ?_
                  refine g_getp (r := 0) (c := 26) g40649 ad0 (by decide) (by decide) rf0_11 ft11_11 ?_
                  refine ev_iload_n rfl ?_
                  refine ev_iload_n rfl ?_
                  refine ev_call (jcall_v (A := [(0, v40650), (0, a1)]) (S' := []) (r := 26) rfl (g40649.lt ad26) (g40649.tg ad26) (Nat.le_of_ble_eq_true rfl)) (jOk_le (by decide) (s131 g40649 (by omega) (by omega) (by omega) (by omega))) (by decide) (by decide) (fun w40658 h40658 q40658 => ?_)
                  obtain ⟨v40659, rfl, lv40659, uv40659, g40658, kk40658⟩ := q40658
                  have k40658 := k40649.tr kk40658 (by decide)
                  show jEv _ _ _ _ _ _ _ (_, [(2, 0), (0, a1), (0, a2), (0, v40650)], [(0, v40659)], _, _, _)
                  refine ev_goto f205_102 ?_
                  exact ev_ret rfl (by decide) (by decide) ⟨_, rfl, by omega, by omega, g40658, k40658⟩
              · refine ev_iload_n rfl ?_
                exact ev_ret rfl (by decide) (by decide) ⟨_, rfl, by omega, by omega, g40649, k40649⟩
            · refine ev_bipush ?_
              exact ev_ret rfl (by decide) (by decide) ⟨_, rfl, by omega, by omega, g, k0⟩
          · refine ev_aload_n rfl ?_
            refine g_getp (r := 0) (c := 26) g ad0 (by decide) (by decide) rf0_11 ft11_11 ?_
            refine ev_in (d := 2) (a := 0) (b := 0) (cd' := c130_0) (m := 2) (L0 := [(2, 26), (9, 0)]) (jcall_v (A := []) (S' := []) (r := 26) rfl (g.lt ad26) (g.tg ad26) (Nat.le_of_ble_eq_true rfl)) (by decide) ml130 pp130 (Nat.le_of_ble_eq_true rfl) rfl (by decide) (by decide) ?_
            refine ev_aload_n rfl ?_
            obtain ⟨v40660, ev40660, lv40660, uv40660⟩ := g.rd ad26 (show 9 < 15 by decide) rf26_9
            refine g_getv (r := 26) (v := v40660) g ad26 (by decide) ft9_9 ev40660 ?_
            refine ev_istore_n (L' := [(2, 26), (0, v40660)]) (Nat.le_of_ble_eq_true rfl) rfl ?_
            refine ev_aload_n rfl ?_
            refine ev_iconst ?_
            refine g_putf (r := 26) g ad26 (by decide) ft9_9 (by decide) (fun e => absurd e nz9_9) rf26_9 (by decide) (by omega) (by omega) (fun h40661 e40661 g40661 => ?_)
            have k40661 := k0.wr e40661 rfl
            refine ev_iload_n rfl ?_
            refine ev_ret rfl (by decide) (by decide) ?_
            show jEv _ _ _ _ _ _ _ (_, [(2, 0), (0, a1), (0, a2), (9, 0)], [(0, v40660)], _, _, _)
            exact ev_ret rfl (by decide) (by decide) ⟨_, rfl, by omega, by omega, g40661, k40661⟩
        · refine ev_iconst ?_
          exact ev_ret rfl (by decide) (by decide) ⟨_, rfl, by omega, by omega, g, k0⟩
/-! 206 day -/
set_option maxHeartbeats 4000000 in
theorem s206 {G : GH} {h : JH} (g : Gd G h) {a1 : Int} (la1 : (-2147483648) ≤ a1) (ua1 : a1 ≤ 2147483647) {a2 : Int} (la2 : (-2147483648) ≤ a2) (ua2 : a2 ≤ 2147483647) {a3 : Int} (la3 : (-2147483648) ≤ a3) (ua3 : a3 ≤ 2147483647) {a4 : Int} (la4 : (-2147483648) ≤ a4) (ua4 : a4 ≤ 2147483647) : jOk 2 0 0 206 [(2, 0), (0, a1), (0, a2), (0, a3), (0, a4)] h (PI G [(34, 0), (35, 0), (36, 0)] h 0 (-1) 1) := by
  refine ⟨by decide, by rw [ml206]; exact Nat.le_of_ble_eq_true rfl, ?_⟩
  rw [ml206, pp206]
  show jEv _ none _ c206_0 0 0 _ (c206_0, [(2, 0), (0, a1), (0, a2), (0, a3), (0, a4)], [], h, 0, 0)
  have k0 := Kp.rf [(34, 0), (35, 0), (36, 0)] h
  refine ev_iload_n rfl ?_
  refine ev_iflt f206_20 (fun c40702 => ?_) (fun c40702 => ?_)
  · refine ev_iconst ?_
    exact ev_ret rfl (by decide) (by decide) ⟨_, rfl, by omega, by omega, g, k0⟩
  · refine ev_iload_n rfl ?_
    refine ev_bipush ?_
    refine ev_icmpge f206_20 (fun c40703 => ?_) (fun c40703 => ?_)
    · refine ev_iconst ?_
      exact ev_ret rfl (by decide) (by decide) ⟨_, rfl, by omega, by omega, g, k0⟩
    · refine ev_iload_n rfl ?_
      refine ev_iload_n rfl ?_
      refine ev_iload rfl ?_
      refine ev_in (d := 0) (a := 0) (b := 0) (cd' := c134_0) (m := 3) (L0 := [(0, a2), (0, a3), (0, a4)]) (jcall_s (A := [(0, a4), (0, a3), (0, a2)]) (S' := []) (by decide) rfl (Nat.le_of_ble_eq_true rfl)) (by decide) ml134 pp134 (Nat.le_of_ble_eq_true rfl) rfl (by decide) (by decide) ?_
      refine ev_iload_n rfl ?_
      refine ev_iflt f134_35 (fun c40704 => ?_) (fun c40704 => ?_)
      · refine ev_iconst ?_
        refine ev_ret rfl (by decide) (by decide) ?_
        show jEv _ _ _ _ _ _ _ (_, [(2, 0), (0, a1), (0, a2), (0, a3), (0, a4)], [(0, 0)], _, _, _)
        refine ev_ifne f206_22 (fun c40705 => absurd c40705 (by omega)) (fun c40705 => ?_)
        refine ev_iconst ?_
        exact ev_ret rfl (by decide) (by decide) ⟨_, rfl, by omega, by omega, g, k0⟩
      · refine ev_iload_n rfl ?_
        refine ev_sipush ?_
        refine ev_icmpgt f134_35 (fun c40706 => ?_) (fun c40706 => ?_)
        · refine ev_iconst ?_
          refine ev_ret rfl (by decide) (by decide) ?_
          show jEv _ _ _ _ _ _ _ (_, [(2, 0), (0, a1), (0, a2), (0, a3), (0, a4)], [(0, 0)], _, _, _)
          refine ev_ifne f206_22 (fun c40707 => absurd c40707 (by omega)) (fun c40707 => ?_)
          refine ev_iconst ?_
          exact ev_ret rfl (by decide) (by decide) ⟨_, rfl, by omega, by omega, g, k0⟩
        · refine ev_iload_n rfl ?_
          refine ev_iflt f134_35 (fun c40708 => ?_) (fun c40708 => ?_)
          · refine ev_iconst ?_
            refine ev_ret rfl (by decide) (by decide) ?_
            show jEv _ _ _ _ _ _ _ (_, [(2, 0), (0, a1), (0, a2), (0, a3), (0, a4)], [(0, 0)], _, _, _)
            refine ev_ifne f206_22 (fun c40709 => absurd c40709 (by omega)) (fun c40709 => ?_)
            refine ev_iconst ?_
            exact ev_ret rfl (by decide) (by decide) ⟨_, rfl, by omega, by omega, g, k0⟩
          · refine ev_iload_n rfl ?_
            refine ev_bipush ?_
            refine ev_icmpgt f134_35 (fun c40710 => ?_) (fun c40710 => ?_)
            · refine ev_iconst ?_
              refine ev_ret rfl (by decide) (by decide) ?_
              show jEv _ _ _ _ _ _ _ (_, [(2, 0), (0, a1), (0, a2), (0, a3), (0, a4)], [(0, 0)], _, _, _)
              refine ev_ifne f206_22 (fun c40711 => absurd c40711 (by omega)) (fun c40711 => ?_)
              refine ev_iconst ?_
              exact ev_ret rfl (by decide) (by decide) ⟨_, rfl, by omega, by omega, g, k0⟩
            · refine ev_iload_n rfl ?_
              refine ev_iflt f134_35 (fun c40712 => ?_) (fun c40712 => ?_)
              · refine ev_iconst ?_
                refine ev_ret rfl (by decide) (by decide) ?_
                show jEv _ _ _ _ _ _ _ (_, [(2, 0), (0, a1), (0, a2), (0, a3), (0, a4)], [(0, 0)], _, _, _)
                refine ev_ifne f206_22 (fun c40713 => absurd c40713 (by omega)) (fun c40713 => ?_)
                refine ev_iconst ?_
                exact ev_ret rfl (by decide) (by decide) ⟨_, rfl, by omega, by omega, g, k0⟩
              · refine ev_iload_n rfl ?_
                refine ev_bipush ?_
                refine ev_icmpgt f134_35 (fun c40714 => ?_) (fun c40714 => ?_)
                · refine ev_iconst ?_
                  refine ev_ret rfl (by decide) (by decide) ?_
                  show jEv _ _ _ _ _ _ _ (_, [(2, 0), (0, a1), (0, a2), (0, a3), (0, a4)], [(0, 0)], _, _, _)
                  refine ev_ifne f206_22 (fun c40715 => absurd c40715 (by omega)) (fun c40715 => ?_)
                  refine ev_iconst ?_
                  exact ev_ret rfl (by decide) (by decide) ⟨_, rfl, by omega, by omega, g, k0⟩
                · refine ev_iconst ?_
                  refine ev_goto f134_36 ?_
                  refine ev_ret rfl (by decide) (by decide) ?_
                  show jEv _ _ _ _ _ _ _ (_, [(2, 0), (0, a1), (0, a2), (0, a3), (0, a4)], [(0, 1)], _, _, _)
                  refine ev_ifne f206_22 (fun c40716 => ?_) (fun c40716 => absurd c40716 (by omega))
                  refine ev_aload_n rfl ?_
                  refine g_getp (r := 0) (c := 26) g ad0 (by decide) (by decide) rf0_11 ft11_11 ?_
                  refine ev_iload_n rfl ?_
                  refine ev_iload_n rfl ?_
                  refine ev_iload_n rfl ?_
                  refine ev_iload rfl ?_
                  refine ev_in (d := 0) (a := 0) (b := 0) (cd' := c135_0) (m := 5) (L0 := [(2, 26), (0, a1), (0, a2), (0, a3), (0, a4)]) (jcall_v (A := [(0, a4), (0, a3), (0, a2), (0, a1)]) (S' := []) (r := 26) rfl (g.lt ad26) (g.tg ad26) (Nat.le_of_ble_eq_true rfl)) (by decide) ml135 pp135 (Nat.le_of_ble_eq_true rfl) rfl (by decide) (by decide) ?_
                  refine ev_iload_n rfl ?_
                  refine ev_iflt f135_32 (fun c40717 => absurd c40717 (by omega)) (fun c40717 => ?_)
                  refine ev_iload_n rfl ?_
                  refine ev_bipush ?_
                  refine ev_icmpge f135_32 (fun c40718 => absurd c40718 (by omega)) (fun c40718 => ?_)
                  refine ev_aload_n rfl ?_
                  refine g_getp (r := 26) (c := 34) g ad26 (by decide) (by decide) rf26_12 ft9_12 ?_
                  refine ev_iload_n rfl ?_
                  refine ev_iload_n rfl ?_
                  refine g_iast g ad34 rt34 (fun _ => rfl) (by omega) (by omega) (by omega) (by omega) (fun h40719 e40719 g40719 => ?_)
                  have k40719 := k0.wr e40719 rfl
                  refine ev_aload_n rfl ?_
                  refine g_getp (r := 26) (c := 35) g40719 ad26 (by decide) (by decide) rf26_13 ft9_13 ?_
                  refine ev_iload_n rfl ?_
                  refine ev_iload_n rfl ?_
                  refine g_iast g40719 ad35 rt35 (fun _ => rfl) (by omega) (by omega) (by omega) (by omega) (fun h40720 e40720 g40720 => ?_)
                  have k40720 := k40719.wr e40720 rfl
                  refine ev_aload_n rfl ?_
                  refine g_getp (r := 26) (c := 36) g40720 ad26 (by decide) (by decide) rf26_14 ft9_14 ?_
                  refine ev_iload_n rfl ?_
                  refine ev_iload rfl ?_
                  refine g_iast g40720 ad36 rt36 (fun _ => rfl) (by omega) (by omega) (by omega) (by omega) (fun h40721 e40721 g40721 => ?_)
                  have k40721 := k40720.wr e40721 rfl
                  refine ev_ret rfl (by decide) (by decide) ?_
                  show jEv _ _ _ _ _ _ _ (_, [(2, 0), (0, a1), (0, a2), (0, a3), (0, a4)], [], _, _, _)
                  refine ev_iconst ?_
                  exact ev_ret rfl (by decide) (by decide) ⟨_, rfl, by omega, by omega, g40721, k40721⟩
/-! 238 daysFrom -/
set_option maxHeartbeats 4000000 in
theorem s238_l {G : GH} {h : JH} {a1 : Int} (la1 : 0 ≤ a1) (ua1 : a1 ≤ 5) {a2 : Int} (la2 : (-2147483648) ≤ a2) (ua2 : a2 ≤ 2147483647) {a3 : Int} (la3 : 1 ≤ a3) (ua3 : a3 ≤ 20) : ∀ N : Nat, (∀ (h1 : JH) (x4 x5 : Int) (j6 j7 j8 j9 : AV), Gd G h1 → Kp [(34, 0), (35, 0), (36, 0)] h h1 → 0 ≤ a1 → a1 ≤ 5 → (-2147483648) ≤ a2 → a2 ≤ 2147483647 → 1 ≤ a3 → a3 ≤ 20 → 0 ≤ x4 → x4 ≤ 20 → (-2147483648) ≤ x5 → x5 ≤ 2147483647 → ((-x4) + 20) < N → jEv (jOk 1) none (fun _ => 0) c238_0 0 0 (PI G [(34, 0), (35, 0), (36, 0)] h 0 0 20) (c238_6, [(2, 0), (0, a1), (0, a2), (0, a3), (0, x4), (0, x5), j6, j7, j8, j9], [], h1, 0, 0)) := by
  intro N
  induction N with
  | zero => exact fun h1 x4 x5 j6 j7 j8 j9 g1 k1 b0 b1 b2 b3 b4 b5 b6 b7 b8 b9 hm => absurd hm (by omega)
  | succ N ih =>
    show _
    intro h1 x4 x5 j6 j7 j8 j9 g1 k1 b0 b1 b2 b3 b4 b5 b6 b7 b8 b9 hm
    refine ev_iload rfl ?_
    refine ev_iload_n rfl ?_
    refine ev_icmpge f238_112 (fun c41226 => ?_) (fun c41226 => ?_)
    · refine ev_iload rfl ?_
      exact ev_ret rfl (by decide) (by decide) ⟨_, rfl, by omega, by omega, g1, k1⟩
    · refine ev_iload rfl ?_
      refine ev_iflt f238_112 (fun c41227 => ?_) (fun c41227 => ?_)
      · refine ev_iload rfl ?_
        exact ev_ret rfl (by decide) (by decide) ⟨_, rfl, by omega, by omega, g1, k1⟩
      · refine ev_iload rfl ?_
        refine ev_aload_n rfl ?_
        refine g_getp (r := 0) (c := 38) g1 ad0 (by decide) (by decide) rf0_13 ft11_13 ?_
        refine ev_iload_n rfl ?_
        refine g_iald g1 ad38 rt38 (by omega) (by omega) (fun v41228 ev41228 lv41228 uv41228 => ?_)
        refine ev_iconst ?_
        refine ev_isub (r := (v41228 - 3)) (by unfold w32; omega) ?_
        refine ev_icmpgt f238_112 (fun c41229 => ?_) (fun c41229 => ?_)
        · refine ev_iload rfl ?_
          exact ev_ret rfl (by decide) (by decide) ⟨_, rfl, by omega, by omega, g1, k1⟩
        · refine ev_bipush ?_
          refine ev_iload_n rfl ?_
          refine ev_imul (r := (60 * a1)) (by unfold w32; omega) ?_
          refine ev_iload rfl ?_
          refine ev_iadd (r := (60 * a1 + x5)) (by unfold w32; omega) ?_
          refine ev_istore (L' := [(2, 0), (0, a1), (0, a2), (0, a3), (0, x4), (0, x5), (0, (60 * a1 + x5)), j7, j8, j9]) (Nat.le_of_ble_eq_true rfl) rfl ?_
          refine ev_aload_n rfl ?_
          refine g_getp (r := 0) (c := 39) g1 ad0 (by decide) (by decide) rf0_14 ft11_14 ?_
          refine ev_iload rfl ?_
          refine g_lald g1 ad39 rt39 (by omega) (by omega) (fun v41230 ev41230 lv41230 uv41230 => ?_)
          refine g_l2iG (fun v41231 ev41231 lv41231 uv41231 => ?_)
          refine ev_istore (L' := [(2, 0), (0, a1), (0, a2), (0, a3), (0, x4), (0, x5), (0, (60 * a1 + x5)), (0, v41231), j8, j9]) (Nat.le_of_ble_eq_true rfl) rfl ?_
          refine ev_aload_n rfl ?_
          refine g_getp (r := 0) (c := 39) g1 ad0 (by decide) (by decide) rf0_14 ft11_14 ?_
          refine ev_iload rfl ?_
          refine ev_iconst ?_
          refine ev_iadd (r := (60 * a1 + x5 + 1)) (by unfold w32; omega) ?_
          refine g_lald g1 ad39 rt39 (by omega) (by omega) (fun v41232 ev41232 lv41232 uv41232 => ?_)
          refine g_l2iG (fun v41233 ev41233 lv41233 uv41233 => ?_)
          refine ev_istore (L' := [(2, 0), (0, a1), (0, a2), (0, a3), (0, x4), (0, x5), (0, (60 * a1 + x5)), (0, v41231), (0, v41233), j9]) (Nat.le_of_ble_eq_true rfl) rfl ?_
          refine ev_aload_n rfl ?_
          refine g_getp (r := 0) (c := 39) g1 ad0 (by decide) (by decide) rf0_14 ft11_14 ?_
          refine ev_iload rfl ?_
          refine ev_iconst ?_
          refine ev_iadd (r := (60 * a1 + x5 + 2)) (by unfold w32; omega) ?_
          refine g_lald g1 ad39 rt39 (by omega) (by omega) (fun v41234 ev41234 lv41234 uv41234 => ?_)
          refine g_l2iG (fun v41235 ev41235 lv41235 uv41235 => ?_)
          refine ev_istore (L' := [(2, 0), (0, a1), (0, a2), (0, a3), (0, x4), (0, x5), (0, (60 * a1 + x5)), (0, v41231), (0, v41233), (0, v41235)]) (Nat.le_of_ble_eq_true rfl) rfl ?_
          refine ev_iload rfl ?_
          refine ev_iload rfl ?_
          refine ev_iload rfl ?_
          refine ev_in (d := 0) (a := 0) (b := 0) (cd' := c134_0) (m := 3) (L0 := [(0, v41231), (0, v41233), (0, v41235)]) (jcall_s (A := [(0, v41235), (0, v41233), (0, v41231)]) (S' := []) (by decide) rfl (Nat.le_of_ble_eq_true rfl)) (by decide) ml134 pp134 (Nat.le_of_ble_eq_true rfl) rfl (by decide) (by decide) ?_
          refine ev_iload_n rfl ?_
          refine ev_iflt f134_35 (fun c41236 => ?_) (fun c41236 => ?_)
          · refine ev_iconst ?_
            refine ev_ret rfl (by decide) (by decide) ?_
            show jEv _ _ _ _ _ _ _ (_, [(2, 0), (0, a1), (0, a2), (0, a3), (0, x4), (0, x5), (0, (60 * a1 + x5)), (0, v41231), (0, v41233), (0, v41235)], [(0, 0)], _, _, _)
            refine ev_ifne f238_88 (fun c41237 => absurd c41237 (by omega)) (fun c41237 => ?_)
            refine ev_iload rfl ?_
            exact ev_ret rfl (by decide) (by decide) ⟨_, rfl, by omega, by omega, g1, k1⟩
          · refine ev_iload_n rfl ?_
            refine ev_sipush ?_
            refine ev_icmpgt f134_35 (fun c41238 => ?_) (fun c41238 => ?_)
            · refine ev_iconst ?_
              refine ev_ret rfl (by decide) (by decide) ?_
              show jEv _ _ _ _ _ _ _ (_, [(2, 0), (0, a1), (0, a2), (0, a3), (0, x4), (0, x5), (0, (60 * a1 + x5)), (0, v41231), (0, v41233), (0, v41235)], [(0, 0)], _, _, _)
              refine ev_ifne f238_88 (fun c41239 => absurd c41239 (by omega)) (fun c41239 => ?_)
              refine ev_iload rfl ?_
              exact ev_ret rfl (by decide) (by decide) ⟨_, rfl, by omega, by omega, g1, k1⟩
            · refine ev_iload_n rfl ?_
              refine ev_iflt f134_35 (fun c41240 => ?_) (fun c41240 => ?_)
              · refine ev_iconst ?_
                refine ev_ret rfl (by decide) (by decide) ?_
                show jEv _ _ _ _ _ _ _ (_, [(2, 0), (0, a1), (0, a2), (0, a3), (0, x4), (0, x5), (0, (60 * a1 + x5)), (0, v41231), (0, v41233), (0, v41235)], [(0, 0)], _, _, _)
                refine ev_ifne f238_88 (fun c41241 => absurd c41241 (by omega)) (fun c41241 => ?_)
                refine ev_iload rfl ?_
                exact ev_ret rfl (by decide) (by decide) ⟨_, rfl, by omega, by omega, g1, k1⟩
              · refine ev_iload_n rfl ?_
                refine ev_bipush ?_
                refine ev_icmpgt f134_35 (fun c41242 => ?_) (fun c41242 => ?_)
                · refine ev_iconst ?_
                  refine ev_ret rfl (by decide) (by decide) ?_
                  show jEv _ _ _ _ _ _ _ (_, [(2, 0), (0, a1), (0, a2), (0, a3), (0, x4), (0, x5), (0, (60 * a1 + x5)), (0, v41231), (0, v41233), (0, v41235)], [(0, 0)], _, _, _)
                  refine ev_ifne f238_88 (fun c41243 => absurd c41243 (by omega)) (fun c41243 => ?_)
                  refine ev_iload rfl ?_
                  exact ev_ret rfl (by decide) (by decide) ⟨_, rfl, by omega, by omega, g1, k1⟩
                · refine ev_iload_n rfl ?_
                  refine ev_iflt f134_35 (fun c41244 => ?_) (fun c41244 => ?_)
                  · refine ev_iconst ?_
                    refine ev_ret rfl (by decide) (by decide) ?_
                    show jEv _ _ _ _ _ _ _ (_, [(2, 0), (0, a1), (0, a2), (0, a3), (0, x4), (0, x5), (0, (60 * a1 + x5)), (0, v41231), (0, v41233), (0, v41235)], [(0, 0)], _, _, _)
                    refine ev_ifne f238_88 (fun c41245 => absurd c41245 (by omega)) (fun c41245 => ?_)
                    refine ev_iload rfl ?_
                    exact ev_ret rfl (by decide) (by decide) ⟨_, rfl, by omega, by omega, g1, k1⟩
                  · refine ev_iload_n rfl ?_
                    refine ev_bipush ?_
                    refine ev_icmpgt f134_35 (fun c41246 => ?_) (fun c41246 => ?_)
                    · refine ev_iconst ?_
                      refine ev_ret rfl (by decide) (by decide) ?_
                      show jEv _ _ _ _ _ _ _ (_, [(2, 0), (0, a1), (0, a2), (0, a3), (0, x4), (0, x5), (0, (60 * a1 + x5)), (0, v41231), (0, v41233), (0, v41235)], [(0, 0)], _, _, _)
                      refine ev_ifne f238_88 (fun c41247 => absurd c41247 (by omega)) (fun c41247 => ?_)
                      refine ev_iload rfl ?_
                      exact ev_ret rfl (by decide) (by decide) ⟨_, rfl, by omega, by omega, g1, k1⟩
                    · refine ev_iconst ?_
                      refine ev_goto f134_36 ?_
                      refine ev_ret rfl (by decide) (by decide) ?_
                      show jEv _ _ _ _ _ _ _ (_, [(2, 0), (0, a1), (0, a2), (0, a3), (0, x4), (0, x5), (0, (60 * a1 + x5)), (0, v41231), (0, v41233), (0, v41235)], [(0, 1)], _, _, _)
                      refine ev_ifne f238_88 (fun c41248 => ?_) (fun c41248 => absurd c41248 (by omega))
                      refine ev_aload_n rfl ?_
                      refine g_getp (r := 0) (c := 26) g1 ad0 (by decide) (by decide) rf0_11 ft11_11 ?_
                      refine ev_iload rfl ?_
                      refine ev_iload rfl ?_
                      refine ev_iload rfl ?_
                      refine ev_iload rfl ?_
                      refine ev_in (d := 0) (a := 0) (b := 0) (cd' := c135_0) (m := 5) (L0 := [(2, 26), (0, x4), (0, v41231), (0, v41233), (0, v41235)]) (jcall_v (A := [(0, v41235), (0, v41233), (0, v41231), (0, x4)]) (S' := []) (r := 26) rfl (g1.lt ad26) (g1.tg ad26) (Nat.le_of_ble_eq_true rfl)) (by decide) ml135 pp135 (Nat.le_of_ble_eq_true rfl) rfl (by decide) (by decide) ?_
                      refine ev_iload_n rfl ?_
                      refine ev_iflt f135_32 (fun c41249 => absurd c41249 (by omega)) (fun c41249 => ?_)
                      refine ev_iload_n rfl ?_
                      refine ev_bipush ?_
                      refine ev_icmpge f135_32 (fun c41250 => absurd c41250 (by omega)) (fun c41250 => ?_)
                      refine ev_aload_n rfl ?_
                      refine g_getp (r := 26) (c := 34) g1 ad26 (by decide) (by decide) rf26_12 ft9_12 ?_
                      refine ev_iload_n rfl ?_
                      refine ev_iload_n rfl ?_
                      refine g_iast g1 ad34 rt34 (fun _ => rfl) (by omega) (by omega) (by omega) (by omega) (fun h41251 e41251 g41251 => ?_)
                      have k41251 := k1.wr e41251 rfl
                      refine ev_aload_n rfl ?_
                      refine g_getp (r := 26) (c := 35) g41251 ad26 (by decide) (by decide) rf26_13 ft9_13 ?_
                      refine ev_iload_n rfl ?_
                      refine ev_iload_n rfl ?_
                      refine g_iast g41251 ad35 rt35 (fun _ => rfl) (by omega) (by omega) (by omega) (by omega) (fun h41252 e41252 g41252 => ?_)
                      have k41252 := k41251.wr e41252 rfl
                      refine ev_aload_n rfl ?_
                      refine g_getp (r := 26) (c := 36) g41252 ad26 (by decide) (by decide) rf26_14 ft9_14 ?_
                      refine ev_iload_n rfl ?_
                      refine ev_iload rfl ?_
                      refine g_iast g41252 ad36 rt36 (fun _ => rfl) (by omega) (by omega) (by omega) (by omega) (fun h41253 e41253 g41253 => ?_)
                      have k41253 := k41252.wr e41253 rfl
                      refine ev_ret rfl (by decide) (by decide) ?_
                      show jEv _ _ _ _ _ _ _ (_, [(2, 0), (0, a1), (0, a2), (0, a3), (0, x4), (0, x5), (0, (60 * a1 + x5)), (0, v41231), (0, v41233), (0, v41235)], [], _, _, _)
                      refine ev_iinc (w := (x4 + 1)) (L' := [(2, 0), (0, a1), (0, a2), (0, a3), (0, (x4 + 1)), (0, x5), (0, (60 * a1 + x5)), (0, v41231), (0, v41233), (0, v41235)]) rfl (by unfold w32; omega) rfl ?_
                      refine ev_iinc (w := (x5 + 3)) (L' := [(2, 0), (0, a1), (0, a2), (0, a3), (0, (x4 + 1)), (0, (x5 + 3)), (0, (60 * a1 + x5)), (0, v41231), (0, v41233), (0, v41235)]) rfl (by unfold w32; omega) rfl ?_
                      refine ev_goto f238_6 ?_
                      exact ih _ _ _ _ _ _ _ g41253 k41253 (by omega) (by omega) (by omega) (by omega) (by omega) (by omega) (by omega) (by omega) (by omega) (by omega) (by omega)
set_option maxHeartbeats 4000000 in
theorem s238 {G : GH} {h : JH} (g : Gd G h) {a1 : Int} (la1 : 0 ≤ a1) (ua1 : a1 ≤ 5) {a2 : Int} (la2 : (-2147483648) ≤ a2) (ua2 : a2 ≤ 2147483647) {a3 : Int} (la3 : 1 ≤ a3) (ua3 : a3 ≤ 20) : jOk 2 0 0 238 [(2, 0), (0, a1), (0, a2), (0, a3)] h (PI G [(34, 0), (35, 0), (36, 0)] h 0 0 20) := by
  refine ⟨by decide, by rw [ml238]; exact Nat.le_of_ble_eq_true rfl, ?_⟩
  rw [ml238, pp238]
  show jEv _ none _ c238_0 0 0 _ (c238_0, [(2, 0), (0, a1), (0, a2), (0, a3), (9, 0), (9, 0), (9, 0), (9, 0), (9, 0), (9, 0)], [], h, 0, 0)
  have k0 := Kp.rf [(34, 0), (35, 0), (36, 0)] h
  refine ev_iconst ?_
  refine ev_istore (L' := [(2, 0), (0, a1), (0, a2), (0, a3), (0, 0), (9, 0), (9, 0), (9, 0), (9, 0), (9, 0)]) (Nat.le_of_ble_eq_true rfl) rfl ?_
  refine ev_iload_n rfl ?_
  refine ev_istore (L' := [(2, 0), (0, a1), (0, a2), (0, a3), (0, 0), (0, a2), (9, 0), (9, 0), (9, 0), (9, 0)]) (Nat.le_of_ble_eq_true rfl) rfl ?_
  exact (s238_l la1 ua1 la2 ua2 la3 ua3 42) _ _ _ _ _ _ _ g k0 (by omega) (by omega) (by omega) (by omega) (by omega) (by omega) (by omega) (by omega) (by omega) (by omega) (by omega)
/-! 207 days -/
set_option maxHeartbeats 4000000 in
theorem s207 {G : GH} {h : JH} (g : Gd G h) {a1 : Int} (la1 : (-2147483648) ≤ a1) (ua1 : a1 ≤ 2147483647) {a2 : Int} (la2 : (-2147483648) ≤ a2) (ua2 : a2 ≤ 2147483647) {a3 : Int} (la3 : (-2147483648) ≤ a3) (ua3 : a3 ≤ 2147483647) : jOk 3 0 0 207 [(2, 0), (0, a1), (0, a2), (0, a3)] h (PI G [(34, 0), (35, 0), (36, 0)] h 0 (-12) 20) := by
  refine ⟨by decide, by rw [ml207]; exact Nat.le_of_ble_eq_true rfl, ?_⟩
  rw [ml207, pp207]
  show jEv _ none _ c207_0 0 0 _ (c207_0, [(2, 0), (0, a1), (0, a2), (0, a3)], [], h, 0, 0)
  have k0 := Kp.rf [(34, 0), (35, 0), (36, 0)] h
  refine ev_iload_n rfl ?_
  refine ev_in (d := 1) (a := 0) (b := 0) (cd' := c222_0) (m := 1) (L0 := [(0, a1)]) (jcall_s (A := [(0, a1)]) (S' := []) (by decide) rfl (Nat.le_of_ble_eq_true rfl)) (by decide) ml222 pp222 (Nat.le_of_ble_eq_true rfl) rfl (by decide) (by decide) ?_
  refine ev_iload_n rfl ?_
  refine ev_iflt f222_14 (fun c41278 => ?_) (fun c41278 => ?_)
  · refine ev_iconst ?_
    refine ev_ret rfl (by decide) (by decide) ?_
    show jEv _ _ _ _ _ _ _ (_, [(2, 0), (0, a1), (0, a2), (0, a3)], [(0, 0)], _, _, _)
    refine ev_ifeq f207_18 (fun c41279 => ?_) (fun c41279 => absurd c41279 (by omega))
    refine ev_iconst ?_
    exact ev_ret rfl (by decide) (by decide) ⟨_, rfl, by omega, by omega, g, k0⟩
  · refine ev_iload_n rfl ?_
    refine ev_bipush ?_
    refine ev_icmpge f222_14 (fun c41280 => ?_) (fun c41280 => ?_)
    · refine ev_iconst ?_
      refine ev_ret rfl (by decide) (by decide) ?_
      show jEv _ _ _ _ _ _ _ (_, [(2, 0), (0, a1), (0, a2), (0, a3)], [(0, 0)], _, _, _)
      refine ev_ifeq f207_18 (fun c41281 => ?_) (fun c41281 => absurd c41281 (by omega))
      refine ev_iconst ?_
      exact ev_ret rfl (by decide) (by decide) ⟨_, rfl, by omega, by omega, g, k0⟩
    · refine ev_iconst ?_
      refine ev_goto f222_15 ?_
      refine ev_ret rfl (by decide) (by decide) ?_
      show jEv _ _ _ _ _ _ _ (_, [(2, 0), (0, a1), (0, a2), (0, a3)], [(0, 1)], _, _, _)
      refine ev_ifeq f207_18 (fun c41282 => absurd c41282 (by omega)) (fun c41282 => ?_)
      refine ev_iload_n rfl ?_
      refine ev_iconst ?_
      refine ev_icmplt f207_18 (fun c41283 => ?_) (fun c41283 => ?_)
      · refine ev_iconst ?_
        exact ev_ret rfl (by decide) (by decide) ⟨_, rfl, by omega, by omega, g, k0⟩
      · refine ev_iload_n rfl ?_
        refine ev_bipush ?_
        refine ev_icmple f207_20 (fun c41284 => ?_) (fun c41284 => ?_)
        · refine ev_aload_n rfl ?_
          refine g_getp (r := 0) (c := 37) g ad0 (by decide) (by decide) rf0_12 ft11_12 ?_
          refine ev_iload_n rfl ?_
          refine g_iald g ad37 rt37 (by omega) (by omega) (fun v41285 ev41285 lv41285 uv41285 => ?_)
          refine ev_iconst ?_
          refine ev_icmpne f207_32 (fun c41286 => ?_) (fun c41286 => ?_)
          · refine ev_aload_n rfl ?_
            refine g_getp (r := 0) (c := 37) g ad0 (by decide) (by decide) rf0_12 ft11_12 ?_
            refine ev_iload_n rfl ?_
            refine g_ialdv (v := v41285) g ad37 (by omega) (by omega) (ev41285) ?_
            refine ev_iconst ?_
            refine ev_icmpne f207_52 (fun c41287 => ?_) (fun c41287 => ?_)
            · refine ev_bipush ?_
              exact ev_ret rfl (by decide) (by decide) ⟨_, rfl, by omega, by omega, g, k0⟩
            · refine ev_aload_n rfl ?_
              refine ev_iload_n rfl ?_
              refine ev_iload_n rfl ?_
              refine ev_iload_n rfl ?_
              refine ev_call (jcall_v (A := [(0, a3), (0, a2), (0, a1)]) (S' := []) (r := 0) rfl (g.lt ad0) (g.tg ad0) (Nat.le_of_ble_eq_true rfl)) (jOk_le (by decide) (s238 g (by omega) (by omega) (by omega) (by omega) (by omega) (by omega))) (by decide) (by decide) (fun w41288 h41288 q41288 => ?_)
              obtain ⟨v41289, rfl, lv41289, uv41289, g41288, kk41288⟩ := q41288
              have k41288 := k0.tr kk41288 (by decide)
              show jEv _ _ _ _ _ _ _ (_, [(2, 0), (0, a1), (0, a2), (0, a3)], [(0, v41289)], _, _, _)
              refine ev_goto f207_54 ?_
              exact ev_ret rfl (by decide) (by decide) ⟨_, rfl, by omega, by omega, g41288, k41288⟩
          · refine ev_iconst ?_
            exact ev_ret rfl (by decide) (by decide) ⟨_, rfl, by omega, by omega, g, k0⟩
        · refine ev_iconst ?_
          exact ev_ret rfl (by decide) (by decide) ⟨_, rfl, by omega, by omega, g, k0⟩
/-! 208 waits -/
set_option maxHeartbeats 4000000 in
theorem s208 {G : GH} {h : JH} (g : Gd G h) {a1 : Int} (la1 : (-2147483648) ≤ a1) (ua1 : a1 ≤ 2147483647) {a2 : Int} (la2 : (-2147483648) ≤ a2) (ua2 : a2 ≤ 2147483647) {a3 : Int} (la3 : (-2147483648) ≤ a3) (ua3 : a3 ≤ 2147483647) : jOk 4 0 0 208 [(2, 0), (0, a1), (0, a2), (0, a3)] h (PI G [] h 1 (-9223372036854775808) 9223372036854775807) := by
  refine ⟨by decide, by rw [ml208]; exact Nat.le_of_ble_eq_true rfl, ?_⟩
  rw [ml208, pp208]
  show jEv _ none _ c208_0 0 0 _ (c208_0, [(2, 0), (0, a1), (0, a2), (0, a3), (9, 0)], [], h, 0, 0)
  have k0 := Kp.rf [] h
  refine ev_iload_n rfl ?_
  refine ev_bipush ?_
  rcases Int.lt_or_le (a1) 0 with c41338 | c41338
  · refine g_iremC (c := 100) rfl (by decide) (fun v41339 ev41339 lv41339 uv41339 => ?_)
    refine ev_istore (L' := [(2, 0), (0, a1), (0, a2), (0, a3), (0, v41339)]) (Nat.le_of_ble_eq_true rfl) rfl ?_
    refine ev_iload_n rfl ?_
    refine ev_iflt f208_53 (fun c41340 => ?_) (fun c41340 => absurd c41340 (by omega))
    refine ev_ldc2_w ?_
    exact ev_ret rfl (by decide) (by decide) ⟨_, rfl, by omega, by omega, g, k0⟩
  · refine g_iremP (c := 100) rfl (by decide) (by omega) (fun v41341 ev41341 lv41341 uv41341 wv41341 => ?_)
    refine ev_istore (L' := [(2, 0), (0, a1), (0, a2), (0, a3), (0, v41341)]) (Nat.le_of_ble_eq_true rfl) rfl ?_
    refine ev_iload_n rfl ?_
    refine ev_iflt f208_53 (fun c41342 => absurd c41342 (by omega)) (fun c41342 => ?_)
    refine ev_iload rfl ?_
    refine ev_iconst ?_
    refine ev_icmplt f208_53 (fun c41343 => ?_) (fun c41343 => ?_)
    · refine ev_ldc2_w ?_
      exact ev_ret rfl (by decide) (by decide) ⟨_, rfl, by omega, by omega, g, k0⟩
    · refine ev_iload rfl ?_
      refine ev_bipush ?_
      refine ev_icmpgt f208_53 (fun c41344 => ?_) (fun c41344 => ?_)
      · refine ev_ldc2_w ?_
        exact ev_ret rfl (by decide) (by decide) ⟨_, rfl, by omega, by omega, g, k0⟩
      · refine ev_iload_n rfl ?_
        refine ev_bipush ?_
        refine g_idivP (c := 100) rfl (by decide) (by omega) (by omega) (fun v41345 ev41345 lv41345 uv41345 => ?_)
        refine ev_iload rfl ?_
        refine ev_icmpge f208_53 (fun c41346 => ?_) (fun c41346 => ?_)
        · refine ev_ldc2_w ?_
          exact ev_ret rfl (by decide) (by decide) ⟨_, rfl, by omega, by omega, g, k0⟩
        · refine ev_iload_n rfl ?_
          refine ev_sipush ?_
          refine ev_icmplt f208_53 (fun c41347 => ?_) (fun c41347 => ?_)
          · refine ev_ldc2_w ?_
            exact ev_ret rfl (by decide) (by decide) ⟨_, rfl, by omega, by omega, g, k0⟩
          · refine ev_iload_n rfl ?_
            refine ev_sipush ?_
            refine ev_icmpgt f208_53 (fun c41348 => ?_) (fun c41348 => ?_)
            · refine ev_ldc2_w ?_
              exact ev_ret rfl (by decide) (by decide) ⟨_, rfl, by omega, by omega, g, k0⟩
            · refine ev_iload_n rfl ?_
              refine ev_in (d := 2) (a := 0) (b := 0) (cd' := c221_0) (m := 1) (L0 := [(0, a3)]) (jcall_s (A := [(0, a3)]) (S' := []) (by decide) rfl (Nat.le_of_ble_eq_true rfl)) (by decide) ml221 pp221 (Nat.le_of_ble_eq_true rfl) rfl (by decide) (by decide) ?_
              refine ev_iload_n rfl ?_
              refine ev_ifeq f221_9 (fun c41349 => ?_) (fun c41349 => ?_)
              · refine ev_iconst ?_
                refine ev_goto f221_14 ?_
                refine ev_ret rfl (by decide) (by decide) ?_
                show jEv _ _ _ _ _ _ _ (_, [(2, 0), (0, a1), (0, a2), (0, a3), (0, v41341)], [(0, 1)], _, _, _)
                refine ev_ifne f208_57 (fun c41350 => ?_) (fun c41350 => absurd c41350 (by omega))
                refine ev_iload_n rfl ?_
                refine ev_ifne f208_78 (fun c41351 => absurd c41351 (by omega)) (fun c41351 => ?_)
                refine ev_aload_n rfl ?_
                refine g_getp (r := 0) (c := 26) g ad0 (by decide) (by decide) rf0_11 ft11_11 ?_
                refine ev_iload_n rfl ?_
                refine ev_bipush ?_
                refine g_idivP (c := 100) rfl (by decide) (by omega) (by omega) (fun v41352 ev41352 lv41352 uv41352 => ?_)
                obtain rfl : v41345 = v41352 := by omega
                refine ev_iload rfl ?_
                refine ev_iload_n rfl ?_
                refine ev_call (jcall_v (A := [(0, a2), (0, v41341), (0, v41345)]) (S' := []) (r := 26) rfl (g.lt ad26) (g.tg ad26) (Nat.le_of_ble_eq_true rfl)) (jOk_le (by decide) (s137 g (by omega) (by omega) (by omega) (by omega) (by omega) (by omega))) (by decide) (by decide) (fun w41353 h41353 q41353 => ?_)
                obtain ⟨v41354, rfl, lv41354, uv41354, g41353, kk41353⟩ := q41353
                have k41353 := k0.tr kk41353 (by decide)
                show jEv _ _ _ _ _ _ _ (_, [(2, 0), (0, a1), (0, a2), (0, a3), (0, v41341)], [(1, v41354)], _, _, _)
                refine ev_goto f208_92 ?_
                exact ev_ret rfl (by decide) (by decide) ⟨_, rfl, by omega, by omega, g41353, k41353⟩
              · refine ev_iload_n rfl ?_
                refine ev_iconst ?_
                refine ev_icmpne f221_13 (fun c41355 => ?_) (fun c41355 => ?_)
                · refine ev_iconst ?_
                  refine ev_ret rfl (by decide) (by decide) ?_
                  show jEv _ _ _ _ _ _ _ (_, [(2, 0), (0, a1), (0, a2), (0, a3), (0, v41341)], [(0, 0)], _, _, _)
                  refine ev_ifne f208_57 (fun c41356 => absurd c41356 (by omega)) (fun c41356 => ?_)
                  refine ev_ldc2_w ?_
                  exact ev_ret rfl (by decide) (by decide) ⟨_, rfl, by omega, by omega, g, k0⟩
                · refine ev_iconst ?_
                  refine ev_goto f221_14 ?_
                  refine ev_ret rfl (by decide) (by decide) ?_
                  show jEv _ _ _ _ _ _ _ (_, [(2, 0), (0, a1), (0, a2), (0, a3), (0, v41341)], [(0, 1)], _, _, _)
                  refine ev_ifne f208_57 (fun c41357 => ?_) (fun c41357 => absurd c41357 (by omega))
                  refine ev_iload_n rfl ?_
                  refine ev_ifne f208_78 (fun c41358 => ?_) (fun c41358 => absurd c41358 (by omega))
                  refine ev_aload_n rfl ?_
                  refine g_getp (r := 0) (c := 26) g ad0 (by decide) (by decide) rf0_11 ft11_11 ?_
                  refine ev_iload_n rfl ?_
                  refine ev_bipush ?_
                  refine g_idivP (c := 100) rfl (by decide) (by omega) (by omega) (fun v41359 ev41359 lv41359 uv41359 => ?_)
                  obtain rfl : v41345 = v41359 := by omega
                  refine ev_iload rfl ?_
                  refine ev_iload_n rfl ?_
                  refine ev_call (jcall_v (A := [(0, a2), (0, v41341), (0, v41345)]) (S' := []) (r := 26) rfl (g.lt ad26) (g.tg ad26) (Nat.le_of_ble_eq_true rfl)) (jOk_le (by decide) (s136 g (by omega) (by omega) (by omega) (by omega) (by omega) (by omega))) (by decide) (by decide) (fun w41360 h41360 q41360 => ?_)
                  obtain ⟨v41361, rfl, lv41361, uv41361, g41360, kk41360⟩ := q41360
                  have k41360 := k0.tr kk41360 (by decide)
                  show jEv _ _ _ _ _ _ _ (_, [(2, 0), (0, a1), (0, a2), (0, a3), (0, v41341)], [(1, v41361)], _, _, _)
                  exact ev_ret rfl (by decide) (by decide) ⟨_, rfl, by omega, by omega, g41360, k41360⟩
/-! 210 act -/
set_option maxHeartbeats 4000000 in
theorem s210 {G : GH} {h : JH} (g : Gd G h) {a1 : Int} (la1 : (-2147483648) ≤ a1) (ua1 : a1 ≤ 2147483647) {a2 : Int} (la2 : (-2147483648) ≤ a2) (ua2 : a2 ≤ 2147483647) {a3 : Int} (la3 : (-2147483648) ≤ a3) (ua3 : a3 ≤ 2147483647) : jOk 10 0 0 210 [(2, 0), (0, a1), (0, a2), (0, a3)] h (PI G [(19, 6), (22, 0)] h 0 (-2147483648) 2147483647) := by
  refine ⟨by decide, by rw [ml210]; exact Nat.le_of_ble_eq_true rfl, ?_⟩
  rw [ml210, pp210]
  show jEv _ none _ c210_0 0 0 _ (c210_0, [(2, 0), (0, a1), (0, a2), (0, a3), (9, 0)], [], h, 0, 0)
  have k0 := Kp.rf [(19, 6), (22, 0)] h
  refine ev_aload_n rfl ?_
  refine ev_iload_n rfl ?_
  refine ev_in (d := 8) (a := 0) (b := 0) (cd' := c220_0) (m := 2) (L0 := [(2, 0), (0, a1)]) (jcall_v (A := [(0, a1)]) (S' := []) (r := 0) rfl (g.lt ad0) (g.tg ad0) (Nat.le_of_ble_eq_true rfl)) (by decide) ml220 pp220 (Nat.le_of_ble_eq_true rfl) rfl (by decide) (by decide) ?_
  refine ev_iload_n rfl ?_
  refine ev_iflt f220_12 (fun c41412 => ?_) (fun c41412 => ?_)
  · refine ev_aconst_null ?_
    refine ev_goto f220_22 ?_
    refine ev_ret rfl (by decide) (by decide) ?_
    show jEv _ _ _ _ _ _ _ (_, [(2, 0), (0, a1), (0, a2), (0, a3), (9, 0)], [(2, (-1))], _, _, _)
    refine ev_astore (L' := [(2, 0), (0, a1), (0, a2), (0, a3), (2, (-1))]) (Nat.le_of_ble_eq_true rfl) rfl ?_
    refine ev_aload_n rfl ?_
    refine g_getp (r := 0) (c := 19) g ad0 (by decide) (by decide) rf0_4 ft11_4 ?_
    refine ev_in (d := 8) (a := 0) (b := 0) (cd' := c93_0) (m := 1) (L0 := [(2, 19)]) (jcall_v (A := []) (S' := []) (r := 19) rfl (g.lt ad19) (g.tg ad19) (Nat.le_of_ble_eq_true rfl)) (by decide) ml93 pp93 (Nat.le_of_ble_eq_true rfl) rfl (by decide) (by decide) ?_
    refine ev_aload_n rfl ?_
    refine ev_iconst ?_
    refine g_putf (r := 19) g ad19 (by decide) ft7_5 (by decide) (fun e => absurd e nz7_5) rf19_5 (by decide) (by omega) (by omega) (fun h41413 e41413 g41413 => ?_)
    have k41413 := k0.wr e41413 rfl
    refine ev_ret rfl (by decide) (by decide) ?_
    show jEv _ _ _ _ _ _ _ (_, [(2, 0), (0, a1), (0, a2), (0, a3), (2, (-1))], [], _, _, _)
    refine ev_aload rfl ?_
    refine ev_ifnull f210_28 (fun c41414 => ?_) (fun c41414 => absurd c41414 (by decide))
    refine ev_iconst ?_
    exact ev_ret rfl (by decide) (by decide) ⟨_, rfl, by omega, by omega, g41413, k41413⟩
  · refine ev_iload_n rfl ?_
    refine ev_aload_n rfl ?_
    obtain ⟨v41415, ev41415, lv41415, uv41415⟩ := g.rd ad0 (show 7 < 17 by decide) rf0_7
    refine g_getv (r := 0) (v := v41415) g ad0 (by decide) ft11_7 ev41415 ?_
    refine ev_icmplt f220_16 (fun c41416 => ?_) (fun c41416 => ?_)
    · refine ev_aload_n rfl ?_
      refine g_getp (r := 0) (c := 24) g ad0 (by decide) (by decide) rf0_6 ft11_6 ?_
      refine ev_iload_n rfl ?_
      refine g_faald (g) (i := a1) (ev41415) (by omega) (by omega) (fun f41417 qf41417 => ?_)
      refine ev_ret rfl (by decide) (by decide) ?_
      show jEv _ _ _ _ _ _ _ (_, [(2, 0), (0, a1), (0, a2), (0, a3), (9, 0)], [(2, (f41417 : Int))], _, _, _)
      refine ev_astore (L' := [(2, 0), (0, a1), (0, a2), (0, a3), (2, (f41417 : Int))]) (Nat.le_of_ble_eq_true rfl) rfl ?_
      refine ev_aload_n rfl ?_
      refine g_getp (r := 0) (c := 19) g ad0 (by decide) (by decide) rf0_4 ft11_4 ?_
      refine ev_in (d := 8) (a := 0) (b := 0) (cd' := c93_0) (m := 1) (L0 := [(2, 19)]) (jcall_v (A := []) (S' := []) (r := 19) rfl (g.lt ad19) (g.tg ad19) (Nat.le_of_ble_eq_true rfl)) (by decide) ml93 pp93 (Nat.le_of_ble_eq_true rfl) rfl (by decide) (by decide) ?_
      refine ev_aload_n rfl ?_
      refine ev_iconst ?_
      refine g_putf (r := 19) g ad19 (by decide) ft7_5 (by decide) (fun e => absurd e nz7_5) rf19_5 (by decide) (by omega) (by omega) (fun h41418 e41418 g41418 => ?_)
      have k41418 := k0.wr e41418 rfl
      refine ev_ret rfl (by decide) (by decide) ?_
      show jEv _ _ _ _ _ _ _ (_, [(2, 0), (0, a1), (0, a2), (0, a3), (2, (f41417 : Int))], [], _, _, _)
      refine ev_aload rfl ?_
      refine ev_ifnull f210_28 (fun c41419 => absurd c41419 (by omega)) (fun c41419 => ?_)
      refine ev_iload_n rfl ?_
      refine ev_iflt f210_28 (fun c41420 => ?_) (fun c41420 => ?_)
      · refine ev_iconst ?_
        exact ev_ret rfl (by decide) (by decide) ⟨_, rfl, by omega, by omega, g41418, k41418⟩
      · refine ev_iload_n rfl ?_
        refine ev_iconst ?_
        refine ev_icmple f210_30 (fun c41421 => ?_) (fun c41421 => ?_)
        · refine ev_iload_n rfl ?_
          rcases (show a2 = 0 ∨ a2 = 1 ∨ a2 = 2 ∨ 2 < a2 by omega) with c41422 | c41422 | c41422 | c41422
          · refine ev_sw (t := 56) (by rw [c41422]; decide) f210_56 ?_
            refine ev_aload rfl ?_
            refine ev_iload_n rfl ?_
            refine ev_callF (A := [(0, a3)]) (S' := []) (r := f41417) rfl (g41418.flt qf41417) (g41418.ffam qf41417) (Nat.le_of_ble_eq_true rfl) (famL (by decide) (fam_pays g41418 qf41417 (by omega) (by omega) ((jw_eq e41418)) (by omega) (by omega))) (by decide) (by decide) (fun w41423 h41423 q41423 => ?_)
            obtain ⟨q41423, fp41423⟩ := q41423
            obtain ⟨v41424, rfl, lv41424, uv41424, g41423, kk41423⟩ := q41423
            have k41423 := k41418.tr kk41423 (by decide)
            obtain ⟨v41425, ev41425, lv41425, uv41425⟩ := g41423.rd ad19 (show 5 < 6 by decide) rf19_5
            rw [ev41425] at fp41423
            show jEv _ _ _ _ _ _ _ (_, [(2, 0), (0, a1), (0, a2), (0, a3), (2, (f41417 : Int))], [(0, v41424)], _, _, _)
            exact ev_ret rfl (by decide) (by decide) ⟨_, rfl, by omega, by omega, g41423, k41423⟩
          · refine ev_sw (t := 63) (by rw [c41422]; decide) f210_63 ?_
            refine ev_aload rfl ?_
            refine ev_iload_n rfl ?_
            refine ev_callF (A := [(0, a3)]) (S' := []) (r := f41417) rfl (g41418.flt qf41417) (g41418.ffam qf41417) (Nat.le_of_ble_eq_true rfl) (famL (by decide) (fam_feels g41418 qf41417 (by omega) (by omega) ((jw_eq e41418)) (by omega) (by omega))) (by decide) (by decide) (fun w41426 h41426 q41426 => ?_)
            obtain ⟨q41426, fp41426⟩ := q41426
            obtain ⟨v41427, rfl, lv41427, uv41427, g41426, kk41426⟩ := q41426
            have k41426 := k41418.tr kk41426 (by decide)
            obtain ⟨v41428, ev41428, lv41428, uv41428⟩ := g41426.rd ad19 (show 5 < 6 by decide) rf19_5
            rw [ev41428] at fp41426
            show jEv _ _ _ _ _ _ _ (_, [(2, 0), (0, a1), (0, a2), (0, a3), (2, (f41417 : Int))], [(0, v41427)], _, _, _)
            exact ev_ret rfl (by decide) (by decide) ⟨_, rfl, by omega, by omega, g41426, k41426⟩
          · refine ev_sw (t := 70) (by rw [c41422]; decide) f210_70 ?_
            refine ev_aload rfl ?_
            refine ev_iload_n rfl ?_
            refine ev_callF (A := [(0, a3)]) (S' := []) (r := f41417) rfl (g41418.flt qf41417) (g41418.ffam qf41417) (Nat.le_of_ble_eq_true rfl) (famL (by decide) (fam_fears g41418 qf41417 (by omega) (by omega) ((jw_eq e41418)) (by omega) (by omega))) (by decide) (by decide) (fun w41429 h41429 q41429 => ?_)
            obtain ⟨q41429, fp41429⟩ := q41429
            obtain ⟨v41430, rfl, lv41430, uv41430, g41429, kk41429⟩ := q41429
            have k41429 := k41418.tr kk41429 (by decide)
            obtain ⟨v41431, ev41431, lv41431, uv41431⟩ := g41429.rd ad19 (show 5 < 6 by decide) rf19_5
            rw [ev41431] at fp41429
            show jEv _ _ _ _ _ _ _ (_, [(2, 0), (0, a1), (0, a2), (0, a3), (2, (f41417 : Int))], [(0, v41430)], _, _, _)
            exact ev_ret rfl (by decide) (by decide) ⟨_, rfl, by omega, by omega, g41429, k41429⟩
          · refine ev_sw (t := 77) (by rw [if_pos (show _ ∨ _ by omega)]; rfl) f210_77 ?_
            refine ev_aload rfl ?_
            refine ev_iload_n rfl ?_
            refine ev_callF (A := [(0, a3)]) (S' := []) (r := f41417) rfl (g41418.flt qf41417) (g41418.ffam qf41417) (Nat.le_of_ble_eq_true rfl) (famL (by decide) (fam_tells g41418 qf41417 (by omega) (by omega) ((jw_eq e41418)) (by omega) (by omega))) (by decide) (by decide) (fun w41432 h41432 q41432 => ?_)
            obtain ⟨q41432, fp41432⟩ := q41432
            obtain ⟨v41433, rfl, lv41433, uv41433, g41432, kk41432⟩ := q41432
            have k41432 := k41418.tr kk41432 (by decide)
            obtain ⟨v41434, ev41434, lv41434, uv41434⟩ := g41432.rd ad19 (show 5 < 6 by decide) rf19_5
            rw [ev41434] at fp41432
            show jEv _ _ _ _ _ _ _ (_, [(2, 0), (0, a1), (0, a2), (0, a3), (2, (f41417 : Int))], [(0, v41433)], _, _, _)
            exact ev_ret rfl (by decide) (by decide) ⟨_, rfl, by omega, by omega, g41432, k41432⟩
        · refine ev_iconst ?_
          exact ev_ret rfl (by decide) (by decide) ⟨_, rfl, by omega, by omega, g41418, k41418⟩
    · refine ev_aconst_null ?_
      refine ev_goto f220_22 ?_
      refine ev_ret rfl (by decide) (by decide) ?_
      show jEv _ _ _ _ _ _ _ (_, [(2, 0), (0, a1), (0, a2), (0, a3), (9, 0)], [(2, (-1))], _, _, _)
      refine ev_astore (L' := [(2, 0), (0, a1), (0, a2), (0, a3), (2, (-1))]) (Nat.le_of_ble_eq_true rfl) rfl ?_
      refine ev_aload_n rfl ?_
      refine g_getp (r := 0) (c := 19) g ad0 (by decide) (by decide) rf0_4 ft11_4 ?_
      refine ev_in (d := 8) (a := 0) (b := 0) (cd' := c93_0) (m := 1) (L0 := [(2, 19)]) (jcall_v (A := []) (S' := []) (r := 19) rfl (g.lt ad19) (g.tg ad19) (Nat.le_of_ble_eq_true rfl)) (by decide) ml93 pp93 (Nat.le_of_ble_eq_true rfl) rfl (by decide) (by decide) ?_
      refine ev_aload_n rfl ?_
      refine ev_iconst ?_
      refine g_putf (r := 19) g ad19 (by decide) ft7_5 (by decide) (fun e => absurd e nz7_5) rf19_5 (by decide) (by omega) (by omega) (fun h41435 e41435 g41435 => ?_)
      have k41435 := k0.wr e41435 rfl
      refine ev_ret rfl (by decide) (by decide) ?_
      show jEv _ _ _ _ _ _ _ (_, [(2, 0), (0, a1), (0, a2), (0, a3), (2, (-1))], [], _, _, _)
      refine ev_aload rfl ?_
      refine ev_ifnull f210_28 (fun c41436 => ?_) (fun c41436 => absurd c41436 (by decide))
      refine ev_iconst ?_
      exact ev_ret rfl (by decide) (by decide) ⟨_, rfl, by omega, by omega, g41435, k41435⟩
/-! 211 trace -/
set_option maxHeartbeats 4000000 in
theorem s211 {G : GH} {h : JH} (g : Gd G h) {a1 : Int} (la1 : (-2147483648) ≤ a1) (ua1 : a1 ≤ 2147483647) : jOk 2 0 0 211 [(2, 0), (0, a1)] h (PI G [] h 0 (-2147483648) 2147483647) := by
  refine ⟨by decide, by rw [ml211]; exact Nat.le_of_ble_eq_true rfl, ?_⟩
  rw [ml211, pp211]
  show jEv _ none _ c211_0 0 0 _ (c211_0, [(2, 0), (0, a1)], [], h, 0, 0)
  have k0 := Kp.rf [] h
  refine ev_aload_n rfl ?_
  refine g_getp (r := 0) (c := 19) g ad0 (by decide) (by decide) rf0_4 ft11_4 ?_
  refine ev_iload_n rfl ?_
  refine ev_in (d := 0) (a := 0) (b := 0) (cd' := c95_0) (m := 2) (L0 := [(2, 19), (0, a1)]) (jcall_v (A := [(0, a1)]) (S' := []) (r := 19) rfl (g.lt ad19) (g.tg ad19) (Nat.le_of_ble_eq_true rfl)) (by decide) ml95 pp95 (Nat.le_of_ble_eq_true rfl) rfl (by decide) (by decide) ?_
  refine ev_iload_n rfl ?_
  refine ev_iflt f95_22 (fun c41455 => ?_) (fun c41455 => ?_)
  · refine ev_iconst ?_
    refine ev_ret rfl (by decide) (by decide) ?_
    show jEv _ _ _ _ _ _ _ (_, [(2, 0), (0, a1)], [(0, 0)], _, _, _)
    refine ev_ifeq f211_22 (fun c41456 => ?_) (fun c41456 => absurd c41456 (by omega))
    refine ev_iconst ?_
    exact ev_ret rfl (by decide) (by decide) ⟨_, rfl, by omega, by omega, g, k0⟩
  · refine ev_iload_n rfl ?_
    refine ev_aload_n rfl ?_
    obtain ⟨v41457, ev41457, lv41457, uv41457⟩ := g.rd ad19 (show 5 < 6 by decide) rf19_5
    refine g_getv (r := 19) (v := v41457) g ad19 (by decide) ft7_5 ev41457 ?_
    refine ev_icmpge f95_22 (fun c41458 => ?_) (fun c41458 => ?_)
    · refine ev_iconst ?_
      refine ev_ret rfl (by decide) (by decide) ?_
      show jEv _ _ _ _ _ _ _ (_, [(2, 0), (0, a1)], [(0, 0)], _, _, _)
      refine ev_ifeq f211_22 (fun c41459 => ?_) (fun c41459 => absurd c41459 (by omega))
      refine ev_iconst ?_
      exact ev_ret rfl (by decide) (by decide) ⟨_, rfl, by omega, by omega, g, k0⟩
    · refine ev_iload_n rfl ?_
      refine ev_bipush ?_
      refine ev_icmpge f95_22 (fun c41460 => ?_) (fun c41460 => ?_)
      · refine ev_iconst ?_
        refine ev_ret rfl (by decide) (by decide) ?_
        show jEv _ _ _ _ _ _ _ (_, [(2, 0), (0, a1)], [(0, 0)], _, _, _)
        refine ev_ifeq f211_22 (fun c41461 => ?_) (fun c41461 => absurd c41461 (by omega))
        refine ev_iconst ?_
        exact ev_ret rfl (by decide) (by decide) ⟨_, rfl, by omega, by omega, g, k0⟩
      · refine ev_iconst ?_
        refine ev_goto f95_23 ?_
        refine ev_ret rfl (by decide) (by decide) ?_
        show jEv _ _ _ _ _ _ _ (_, [(2, 0), (0, a1)], [(0, 1)], _, _, _)
        refine ev_ifeq f211_22 (fun c41462 => absurd c41462 (by omega)) (fun c41462 => ?_)
        refine ev_aload_n rfl ?_
        refine g_getp (r := 0) (c := 19) g ad0 (by decide) (by decide) rf0_4 ft11_4 ?_
        refine ev_iload_n rfl ?_
        refine ev_in (d := 0) (a := 0) (b := 0) (cd' := c96_0) (m := 2) (L0 := [(2, 19), (0, a1)]) (jcall_v (A := [(0, a1)]) (S' := []) (r := 19) rfl (g.lt ad19) (g.tg ad19) (Nat.le_of_ble_eq_true rfl)) (by decide) ml96 pp96 (Nat.le_of_ble_eq_true rfl) rfl (by decide) (by decide) ?_
        refine ev_aload_n rfl ?_
        refine g_getp (r := 19) (c := 22) g ad19 (by decide) (by decide) rf19_2 ft7_2 ?_
        refine ev_iload_n rfl ?_
        refine g_iald g ad22 rt22 (by omega) (by omega) (fun v41463 ev41463 lv41463 uv41463 => ?_)
        refine ev_ret rfl (by decide) (by decide) ?_
        show jEv _ _ _ _ _ _ _ (_, [(2, 0), (0, a1)], [(0, v41463)], _, _, _)
        refine ev_goto f211_23 ?_
        exact ev_ret rfl (by decide) (by decide) ⟨_, rfl, by omega, by omega, g, k0⟩
/-! 212 keep -/
set_option maxHeartbeats 4000000 in
theorem s212 {G : GH} {h : JH} (g : Gd G h) {a1 : Int} (la1 : (-2147483648) ≤ a1) (ua1 : a1 ≤ 2147483647) {a2 : Int} (la2 : (-2147483648) ≤ a2) (ua2 : a2 ≤ 2147483647) : jOk 2 0 0 212 [(2, 0), (0, a1), (0, a2)] h (PI G [(37, 0), (38, 0)] h 0 (-1) 1) := by
  refine ⟨by decide, by rw [ml212]; exact Nat.le_of_ble_eq_true rfl, ?_⟩
  rw [ml212, pp212]
  show jEv _ none _ c212_0 0 0 _ (c212_0, [(2, 0), (0, a1), (0, a2)], [], h, 0, 0)
  have k0 := Kp.rf [(37, 0), (38, 0)] h
  refine ev_iload_n rfl ?_
  refine ev_in (d := 0) (a := 0) (b := 0) (cd' := c222_0) (m := 1) (L0 := [(0, a1)]) (jcall_s (A := [(0, a1)]) (S' := []) (by decide) rfl (Nat.le_of_ble_eq_true rfl)) (by decide) ml222 pp222 (Nat.le_of_ble_eq_true rfl) rfl (by decide) (by decide) ?_
  refine ev_iload_n rfl ?_
  refine ev_iflt f222_14 (fun c41502 => ?_) (fun c41502 => ?_)
  · refine ev_iconst ?_
    refine ev_ret rfl (by decide) (by decide) ?_
    show jEv _ _ _ _ _ _ _ (_, [(2, 0), (0, a1), (0, a2)], [(0, 0)], _, _, _)
    refine ev_ifeq f212_20 (fun c41503 => ?_) (fun c41503 => absurd c41503 (by omega))
    refine ev_iconst ?_
    exact ev_ret rfl (by decide) (by decide) ⟨_, rfl, by omega, by omega, g, k0⟩
  · refine ev_iload_n rfl ?_
    refine ev_bipush ?_
    refine ev_icmpge f222_14 (fun c41504 => ?_) (fun c41504 => ?_)
    · refine ev_iconst ?_
      refine ev_ret rfl (by decide) (by decide) ?_
      show jEv _ _ _ _ _ _ _ (_, [(2, 0), (0, a1), (0, a2)], [(0, 0)], _, _, _)
      refine ev_ifeq f212_20 (fun c41505 => ?_) (fun c41505 => absurd c41505 (by omega))
      refine ev_iconst ?_
      exact ev_ret rfl (by decide) (by decide) ⟨_, rfl, by omega, by omega, g, k0⟩
    · refine ev_iconst ?_
      refine ev_goto f222_15 ?_
      refine ev_ret rfl (by decide) (by decide) ?_
      show jEv _ _ _ _ _ _ _ (_, [(2, 0), (0, a1), (0, a2)], [(0, 1)], _, _, _)
      refine ev_ifeq f212_20 (fun c41506 => absurd c41506 (by omega)) (fun c41506 => ?_)
      refine ev_iload_n rfl ?_
      refine ev_iconst ?_
      refine ev_icmpeq f212_22 (fun c41507 => ?_) (fun c41507 => ?_)
      · refine ev_aload_n rfl ?_
        refine g_getp (r := 0) (c := 37) g ad0 (by decide) (by decide) rf0_12 ft11_12 ?_
        refine ev_iload_n rfl ?_
        refine ev_iload_n rfl ?_
        refine ev_iconst ?_
        refine ev_icmpne f212_36 (fun c41508 => absurd c41508 (by omega)) (fun c41508 => ?_)
        refine ev_iconst ?_
        refine ev_goto f212_40 ?_
        refine g_iast g ad37 rt37 (fun _ => rfl) (by omega) (by omega) (by omega) (by omega) (fun h41509 e41509 g41509 => ?_)
        have k41509 := k0.wr e41509 rfl
        refine ev_aload_n rfl ?_
        refine g_getp (r := 0) (c := 38) g41509 ad0 (by decide) (by decide) rf0_13 ft11_13 ?_
        refine ev_iload_n rfl ?_
        refine ev_iconst ?_
        refine g_iast g41509 ad38 rt38 (fun _ => rfl) (by omega) (by omega) (by omega) (by omega) (fun h41510 e41510 g41510 => ?_)
        have k41510 := k41509.wr e41510 rfl
        refine ev_iconst ?_
        exact ev_ret rfl (by decide) (by decide) ⟨_, rfl, by omega, by omega, g41510, k41510⟩
      · refine ev_aload_n rfl ?_
        refine ev_iload_n rfl ?_
        refine ev_in (d := 0) (a := 0) (b := 0) (cd' := c220_0) (m := 2) (L0 := [(2, 0), (0, a2)]) (jcall_v (A := [(0, a2)]) (S' := []) (r := 0) rfl (g.lt ad0) (g.tg ad0) (Nat.le_of_ble_eq_true rfl)) (by decide) ml220 pp220 (Nat.le_of_ble_eq_true rfl) rfl (by decide) (by decide) ?_
        refine ev_iload_n rfl ?_
        refine ev_iflt f220_12 (fun c41511 => ?_) (fun c41511 => ?_)
        · refine ev_aconst_null ?_
          refine ev_goto f220_22 ?_
          refine ev_ret rfl (by decide) (by decide) ?_
          show jEv _ _ _ _ _ _ _ (_, [(2, 0), (0, a1), (0, a2)], [(2, (-1))], _, _, _)
          refine ev_ifnonnull f212_22 (fun c41512 => absurd c41512 (by decide)) (fun c41512 => ?_)
          refine ev_iconst ?_
          exact ev_ret rfl (by decide) (by decide) ⟨_, rfl, by omega, by omega, g, k0⟩
        · refine ev_iload_n rfl ?_
          refine ev_aload_n rfl ?_
          obtain ⟨v41513, ev41513, lv41513, uv41513⟩ := g.rd ad0 (show 7 < 17 by decide) rf0_7
          refine g_getv (r := 0) (v := v41513) g ad0 (by decide) ft11_7 ev41513 ?_
          refine ev_icmplt f220_16 (fun c41514 => ?_) (fun c41514 => ?_)
          · refine ev_aload_n rfl ?_
            refine g_getp (r := 0) (c := 24) g ad0 (by decide) (by decide) rf0_6 ft11_6 ?_
            refine ev_iload_n rfl ?_
            refine g_faald (g) (i := a2) (ev41513) (by omega) (by omega) (fun f41515 qf41515 => ?_)
            refine ev_ret rfl (by decide) (by decide) ?_
            show jEv _ _ _ _ _ _ _ (_, [(2, 0), (0, a1), (0, a2)], [(2, (f41515 : Int))], _, _, _)
            refine ev_ifnonnull f212_22 (fun c41516 => ?_) (fun c41516 => absurd c41516 (by omega))
            refine ev_aload_n rfl ?_
            refine g_getp (r := 0) (c := 37) g ad0 (by decide) (by decide) rf0_12 ft11_12 ?_
            refine ev_iload_n rfl ?_
            refine ev_iload_n rfl ?_
            refine ev_iconst ?_
            refine ev_icmpne f212_36 (fun c41517 => ?_) (fun c41517 => absurd c41517 (by omega))
            refine ev_bipush ?_
            refine ev_iload_n rfl ?_
            refine ev_iadd (r := (a2 + 10)) (by unfold w32; omega) ?_
            refine g_iast g ad37 rt37 (fun _ => rfl) (by omega) (by omega) (by omega) (by omega) (fun h41518 e41518 g41518 => ?_)
            have k41518 := k0.wr e41518 rfl
            refine ev_aload_n rfl ?_
            refine g_getp (r := 0) (c := 38) g41518 ad0 (by decide) (by decide) rf0_13 ft11_13 ?_
            refine ev_iload_n rfl ?_
            refine ev_iconst ?_
            refine g_iast g41518 ad38 rt38 (fun _ => rfl) (by omega) (by omega) (by omega) (by omega) (fun h41519 e41519 g41519 => ?_)
            have k41519 := k41518.wr e41519 rfl
            refine ev_iconst ?_
            exact ev_ret rfl (by decide) (by decide) ⟨_, rfl, by omega, by omega, g41519, k41519⟩
          · refine ev_aconst_null ?_
            refine ev_goto f220_22 ?_
            refine ev_ret rfl (by decide) (by decide) ?_
            show jEv _ _ _ _ _ _ _ (_, [(2, 0), (0, a1), (0, a2)], [(2, (-1))], _, _, _)
            refine ev_ifnonnull f212_22 (fun c41520 => absurd c41520 (by decide)) (fun c41520 => ?_)
            refine ev_iconst ?_
            exact ev_ret rfl (by decide) (by decide) ⟨_, rfl, by omega, by omega, g, k0⟩
/-! 213 row -/
set_option maxHeartbeats 4000000 in
theorem s213_l {G : GH} {h : JH} {a1 : Int} (la1 : (-2147483648) ≤ a1) (ua1 : a1 ≤ 2147483647) {a2 : Int} (la2 : (-2147483648) ≤ a2) (ua2 : a2 ≤ 2147483647) {a3 : Int} (la3 : (-2147483648) ≤ a3) (ua3 : a3 ≤ 2147483647) : ∀ N : Nat, (∀ (h1 : JH) (x4 : Int), Gd G h1 → Kp [(37, 0), (38, 0), (39, 0)] h h1 → 0 ≤ a1 → a1 ≤ 5 → 0 ≤ a2 → a2 ≤ 4 → 0 ≤ a3 → a3 ≤ 60 → 0 ≤ x4 → x4 ≤ 60 → ((-x4) + 60) < N → jEv (jOk 1) none (fun _ => 0) c213_0 0 0 (PI G [(37, 0), (38, 0), (39, 0)] h 0 (-14) 1) (c213_48, [(2, 0), (0, a1), (0, a2), (0, a3), (0, x4)], [], h1, 0, 0)) := by
  intro N
  induction N with
  | zero => exact fun h1 x4 g1 k1 b0 b1 b2 b3 b4 b5 b6 b7 hm => absurd hm (by omega)
  | succ N ih =>
    show _
    intro h1 x4 g1 k1 b0 b1 b2 b3 b4 b5 b6 b7 hm
    refine ev_iload rfl ?_
    refine ev_iload_n rfl ?_
    refine ev_icmpge f213_73 (fun c41603 => ?_) (fun c41603 => ?_)
    · refine ev_iconst ?_
      exact ev_ret rfl (by decide) (by decide) ⟨_, rfl, by omega, by omega, g1, k1⟩
    · refine ev_aload_n rfl ?_
      refine g_getp (r := 0) (c := 39) g1 ad0 (by decide) (by decide) rf0_14 ft11_14 ?_
      refine ev_bipush ?_
      refine ev_iload_n rfl ?_
      refine ev_imul (r := (60 * a1)) (by unfold w32; omega) ?_
      refine ev_iload rfl ?_
      refine ev_iadd (r := (60 * a1 + x4)) (by unfold w32; omega) ?_
      refine ev_lconst ?_
      refine g_last g1 ad39 rt39 (fun _ => rfl) (by omega) (by omega) (by omega) (by omega) (fun h41604 e41604 g41604 => ?_)
      have k41604 := k1.wr e41604 rfl
      refine ev_iinc (w := (x4 + 1)) (L' := [(2, 0), (0, a1), (0, a2), (0, a3), (0, (x4 + 1))]) rfl (by unfold w32; omega) rfl ?_
      refine ev_goto f213_48 ?_
      exact ih _ _ g41604 k41604 (by omega) (by omega) (by omega) (by omega) (by omega) (by omega) (by omega) (by omega) (by omega)
set_option maxHeartbeats 4000000 in
theorem s213 {G : GH} {h : JH} (g : Gd G h) {a1 : Int} (la1 : (-2147483648) ≤ a1) (ua1 : a1 ≤ 2147483647) {a2 : Int} (la2 : (-2147483648) ≤ a2) (ua2 : a2 ≤ 2147483647) {a3 : Int} (la3 : (-2147483648) ≤ a3) (ua3 : a3 ≤ 2147483647) : jOk 2 0 0 213 [(2, 0), (0, a1), (0, a2), (0, a3)] h (PI G [(37, 0), (38, 0), (39, 0)] h 0 (-14) 1) := by
  refine ⟨by decide, by rw [ml213]; exact Nat.le_of_ble_eq_true rfl, ?_⟩
  rw [ml213, pp213]
  show jEv _ none _ c213_0 0 0 _ (c213_0, [(2, 0), (0, a1), (0, a2), (0, a3), (9, 0)], [], h, 0, 0)
  have k0 := Kp.rf [(37, 0), (38, 0), (39, 0)] h
  refine ev_iload_n rfl ?_
  refine ev_in (d := 0) (a := 0) (b := 0) (cd' := c222_0) (m := 1) (L0 := [(0, a1)]) (jcall_s (A := [(0, a1)]) (S' := []) (by decide) rfl (Nat.le_of_ble_eq_true rfl)) (by decide) ml222 pp222 (Nat.le_of_ble_eq_true rfl) rfl (by decide) (by decide) ?_
  refine ev_iload_n rfl ?_
  refine ev_iflt f222_14 (fun c41605 => ?_) (fun c41605 => ?_)
  · refine ev_iconst ?_
    refine ev_ret rfl (by decide) (by decide) ?_
    show jEv _ _ _ _ _ _ _ (_, [(2, 0), (0, a1), (0, a2), (0, a3), (9, 0)], [(0, 0)], _, _, _)
    refine ev_ifeq f213_22 (fun c41606 => ?_) (fun c41606 => absurd c41606 (by omega))
    refine ev_iconst ?_
    exact ev_ret rfl (by decide) (by decide) ⟨_, rfl, by omega, by omega, g, k0⟩
  · refine ev_iload_n rfl ?_
    refine ev_bipush ?_
    refine ev_icmpge f222_14 (fun c41607 => ?_) (fun c41607 => ?_)
    · refine ev_iconst ?_
      refine ev_ret rfl (by decide) (by decide) ?_
      show jEv _ _ _ _ _ _ _ (_, [(2, 0), (0, a1), (0, a2), (0, a3), (9, 0)], [(0, 0)], _, _, _)
      refine ev_ifeq f213_22 (fun c41608 => ?_) (fun c41608 => absurd c41608 (by omega))
      refine ev_iconst ?_
      exact ev_ret rfl (by decide) (by decide) ⟨_, rfl, by omega, by omega, g, k0⟩
    · refine ev_iconst ?_
      refine ev_goto f222_15 ?_
      refine ev_ret rfl (by decide) (by decide) ?_
      show jEv _ _ _ _ _ _ _ (_, [(2, 0), (0, a1), (0, a2), (0, a3), (9, 0)], [(0, 1)], _, _, _)
      refine ev_ifeq f213_22 (fun c41609 => absurd c41609 (by omega)) (fun c41609 => ?_)
      refine ev_iload_n rfl ?_
      refine ev_iflt f213_22 (fun c41610 => ?_) (fun c41610 => ?_)
      · refine ev_iconst ?_
        exact ev_ret rfl (by decide) (by decide) ⟨_, rfl, by omega, by omega, g, k0⟩
      · refine ev_iload_n rfl ?_
        refine ev_iconst ?_
        refine ev_icmpge f213_22 (fun c41611 => ?_) (fun c41611 => ?_)
        · refine ev_iconst ?_
          exact ev_ret rfl (by decide) (by decide) ⟨_, rfl, by omega, by omega, g, k0⟩
        · refine ev_iload_n rfl ?_
          refine ev_bipush ?_
          refine ev_icmple f213_24 (fun c41612 => ?_) (fun c41612 => ?_)
          · refine ev_iload_n rfl ?_
            refine ev_ifge f213_31 (fun c41613 => ?_) (fun c41613 => ?_)
            · refine ev_aload_n rfl ?_
              refine g_getp (r := 0) (c := 37) g ad0 (by decide) (by decide) rf0_12 ft11_12 ?_
              refine ev_iload_n rfl ?_
              refine ev_iload_n rfl ?_
              refine g_iast g ad37 rt37 (fun _ => rfl) (by omega) (by omega) (by omega) (by omega) (fun h41614 e41614 g41614 => ?_)
              have k41614 := k0.wr e41614 rfl
              refine ev_aload_n rfl ?_
              refine g_getp (r := 0) (c := 38) g41614 ad0 (by decide) (by decide) rf0_13 ft11_13 ?_
              refine ev_iload_n rfl ?_
              refine ev_iload_n rfl ?_
              refine g_iast g41614 ad38 rt38 (fun _ => rfl) (by omega) (by omega) (by omega) (by omega) (fun h41615 e41615 g41615 => ?_)
              have k41615 := k41614.wr e41615 rfl
              refine ev_iconst ?_
              refine ev_istore (L' := [(2, 0), (0, a1), (0, a2), (0, a3), (0, 0)]) (Nat.le_of_ble_eq_true rfl) rfl ?_
              exact (s213_l la1 ua1 la2 ua2 la3 ua3 122) _ _ g41615 k41615 (by omega) (by omega) (by omega) (by omega) (by omega) (by omega) (by omega) (by omega) (by omega)
            · refine ev_bipush ?_
              exact ev_ret rfl (by decide) (by decide) ⟨_, rfl, by omega, by omega, g, k0⟩
          · refine ev_iconst ?_
            exact ev_ret rfl (by decide) (by decide) ⟨_, rfl, by omega, by omega, g, k0⟩
/-! 240 lowestBits -/
set_option maxHeartbeats 4000000 in
theorem s240 {G : GH} {h : JH} (g : Gd G h) {a0 : Int} (la0 : (-2147483648) ≤ a0) (ua0 : a0 ≤ 2147483647) {a1 : Int} (la1 : (-9223372036854775808) ≤ a1) (ua1 : a1 ≤ 9223372036854775807) : jOk 1 0 0 240 [(0, a0), (1, a1)] h (PI G [] h 1 (-9223372036854775808) 9223372036854775807) := by
  refine ⟨by decide, by rw [ml240]; exact Nat.le_of_ble_eq_true rfl, ?_⟩
  rw [ml240, pp240]
  show jEv _ none _ c240_0 0 0 _ (c240_0, [(0, a0), (1, a1), (9, 0)], [], h, 0, 0)
  have k0 := Kp.rf [] h
  refine ev_iload_n rfl ?_
  rcases (show a0 = 0 ∨ a0 = 1 ∨ a0 = 2 ∨ a0 = 3 ∨ a0 < 0 ∨ 3 < a0 by omega) with c41632 | c41632 | c41632 | c41632 | c41632 | c41632
  · refine ev_sw (t := 32) (by rw [c41632]; decide) f240_32 ?_
    refine ev_lload_n rfl ?_
    refine g_l2iG (fun v41633 ev41633 lv41633 uv41633 => ?_)
    refine g_i2bG (fun v41634 ev41634 lv41634 uv41634 => ?_)
    refine ev_i2l ?_
    exact ev_ret rfl (by decide) (by decide) ⟨_, rfl, by omega, by omega, g, k0⟩
  · refine ev_sw (t := 37) (by rw [c41632]; decide) f240_37 ?_
    refine ev_lload_n rfl ?_
    refine g_l2iG (fun v41635 ev41635 lv41635 uv41635 => ?_)
    refine g_i2sG (fun v41636 ev41636 lv41636 uv41636 => ?_)
    refine ev_i2l ?_
    exact ev_ret rfl (by decide) (by decide) ⟨_, rfl, by omega, by omega, g, k0⟩
  · refine ev_sw (t := 42) (by rw [c41632]; decide) f240_42 ?_
    refine ev_lload_n rfl ?_
    refine g_l2iG (fun v41637 ev41637 lv41637 uv41637 => ?_)
    refine ev_i2l ?_
    exact ev_ret rfl (by decide) (by decide) ⟨_, rfl, by omega, by omega, g, k0⟩
  · refine ev_sw (t := 46) (by rw [c41632]; decide) f240_46 ?_
    refine ev_lload_n rfl ?_
    exact ev_ret rfl (by decide) (by decide) ⟨_, rfl, by omega, by omega, g, k0⟩
  · refine ev_sw (t := 48) (by rw [if_pos (show _ ∨ _ by omega)]; rfl) f240_48 ?_
    refine ev_lload_n rfl ?_
    refine ev_lconst ?_
    refine ev_lcmp ?_
    refine ev_ifeq f240_58 (fun c41638 => ?_) (fun c41638 => ?_)
    · have c41638b := jcmpL_eq c41638
      refine ev_lconst ?_
      exact ev_ret rfl (by decide) (by decide) ⟨_, rfl, by omega, by omega, g, k0⟩
    · have c41638b := jcmpL_eqN c41638
      refine ev_lconst ?_
      refine ev_goto f240_59 ?_
      exact ev_ret rfl (by decide) (by decide) ⟨_, rfl, by omega, by omega, g, k0⟩
  · refine ev_sw (t := 48) (by rw [if_pos (show _ ∨ _ by omega)]; rfl) f240_48 ?_
    refine ev_lload_n rfl ?_
    refine ev_lconst ?_
    refine ev_lcmp ?_
    refine ev_ifeq f240_58 (fun c41639 => ?_) (fun c41639 => ?_)
    · have c41639b := jcmpL_eq c41639
      refine ev_lconst ?_
      exact ev_ret rfl (by decide) (by decide) ⟨_, rfl, by omega, by omega, g, k0⟩
    · have c41639b := jcmpL_eqN c41639
      refine ev_lconst ?_
      refine ev_goto f240_59 ?_
      exact ev_ret rfl (by decide) (by decide) ⟨_, rfl, by omega, by omega, g, k0⟩
/-! 214 put -/
set_option maxHeartbeats 4000000 in
theorem s214 {G : GH} {h : JH} (g : Gd G h) {a1 : Int} (la1 : (-2147483648) ≤ a1) (ua1 : a1 ≤ 2147483647) {a2 : Int} (la2 : (-2147483648) ≤ a2) (ua2 : a2 ≤ 2147483647) {a3 : Int} (la3 : (-9223372036854775808) ≤ a3) (ua3 : a3 ≤ 9223372036854775807) : jOk 3 0 0 214 [(2, 0), (0, a1), (0, a2), (1, a3)] h (PI G [(39, 0)] h 0 (-13) 1) := by
  refine ⟨by decide, by rw [ml214]; exact Nat.le_of_ble_eq_true rfl, ?_⟩
  rw [ml214, pp214]
  show jEv _ none _ c214_0 0 0 _ (c214_0, [(2, 0), (0, a1), (0, a2), (1, a3), (9, 0), (9, 0)], [], h, 0, 0)
  have k0 := Kp.rf [(39, 0)] h
  refine ev_aload_n rfl ?_
  refine ev_iload_n rfl ?_
  refine ev_iload_n rfl ?_
  refine ev_in (d := 1) (a := 0) (b := 0) (cd' := c239_0) (m := 3) (L0 := [(2, 0), (0, a1), (0, a2)]) (jcall_v (A := [(0, a2), (0, a1)]) (S' := []) (r := 0) rfl (g.lt ad0) (g.tg ad0) (Nat.le_of_ble_eq_true rfl)) (by decide) ml239 pp239 (Nat.le_of_ble_eq_true rfl) rfl (by decide) (by decide) ?_
  refine ev_iload_n rfl ?_
  refine ev_in (d := 0) (a := 0) (b := 0) (cd' := c222_0) (m := 1) (L0 := [(0, a1)]) (jcall_s (A := [(0, a1)]) (S' := []) (by decide) rfl (Nat.le_of_ble_eq_true rfl)) (by decide) ml222 pp222 (Nat.le_of_ble_eq_true rfl) rfl (by decide) (by decide) ?_
  refine ev_iload_n rfl ?_
  refine ev_iflt f222_14 (fun c41682 => ?_) (fun c41682 => ?_)
  · refine ev_iconst ?_
    refine ev_ret rfl (by decide) (by decide) ?_
    show jEv _ _ _ _ _ _ _ (_, [(2, 0), (0, a1), (0, a2)], [(0, 0)], _, _, _)
    refine ev_ifne f239_9 (fun c41683 => absurd c41683 (by omega)) (fun c41683 => ?_)
    refine ev_iconst ?_
    refine ev_ret rfl (by decide) (by decide) ?_
    show jEv _ _ _ _ _ _ _ (_, [(2, 0), (0, a1), (0, a2), (1, a3), (9, 0), (9, 0)], [(0, (-1))], _, _, _)
    refine ev_istore (L' := [(2, 0), (0, a1), (0, a2), (1, a3), (9, 0), (0, (-1))]) (Nat.le_of_ble_eq_true rfl) rfl ?_
    refine ev_iload rfl ?_
    refine ev_ifeq f214_16 (fun c41684 => absurd c41684 (by omega)) (fun c41684 => ?_)
    refine ev_iload rfl ?_
    exact ev_ret rfl (by decide) (by decide) ⟨_, rfl, by omega, by omega, g, k0⟩
  · refine ev_iload_n rfl ?_
    refine ev_bipush ?_
    refine ev_icmpge f222_14 (fun c41685 => ?_) (fun c41685 => ?_)
    · refine ev_iconst ?_
      refine ev_ret rfl (by decide) (by decide) ?_
      show jEv _ _ _ _ _ _ _ (_, [(2, 0), (0, a1), (0, a2)], [(0, 0)], _, _, _)
      refine ev_ifne f239_9 (fun c41686 => absurd c41686 (by omega)) (fun c41686 => ?_)
      refine ev_iconst ?_
      refine ev_ret rfl (by decide) (by decide) ?_
      show jEv _ _ _ _ _ _ _ (_, [(2, 0), (0, a1), (0, a2), (1, a3), (9, 0), (9, 0)], [(0, (-1))], _, _, _)
      refine ev_istore (L' := [(2, 0), (0, a1), (0, a2), (1, a3), (9, 0), (0, (-1))]) (Nat.le_of_ble_eq_true rfl) rfl ?_
      refine ev_iload rfl ?_
      refine ev_ifeq f214_16 (fun c41687 => absurd c41687 (by omega)) (fun c41687 => ?_)
      refine ev_iload rfl ?_
      exact ev_ret rfl (by decide) (by decide) ⟨_, rfl, by omega, by omega, g, k0⟩
    · refine ev_iconst ?_
      refine ev_goto f222_15 ?_
      refine ev_ret rfl (by decide) (by decide) ?_
      show jEv _ _ _ _ _ _ _ (_, [(2, 0), (0, a1), (0, a2)], [(0, 1)], _, _, _)
      refine ev_ifne f239_9 (fun c41688 => ?_) (fun c41688 => absurd c41688 (by omega))
      refine ev_aload_n rfl ?_
      refine g_getp (r := 0) (c := 37) g ad0 (by decide) (by decide) rf0_12 ft11_12 ?_
      refine ev_iload_n rfl ?_
      refine g_iald g ad37 rt37 (by omega) (by omega) (fun v41689 ev41689 lv41689 uv41689 => ?_)
      refine ev_iconst ?_
      refine ev_icmpne f239_22 (fun c41690 => ?_) (fun c41690 => ?_)
      · refine ev_aload_n rfl ?_
        refine g_getp (r := 0) (c := 37) g ad0 (by decide) (by decide) rf0_12 ft11_12 ?_
        refine ev_iload_n rfl ?_
        refine g_ialdv (v := v41689) g ad37 (by omega) (by omega) (ev41689) ?_
        refine ev_bipush ?_
        refine ev_icmplt f239_36 (fun c41691 => ?_) (fun c41691 => ?_)
        · refine ev_iload_n rfl ?_
          refine ev_iflt f239_50 (fun c41692 => ?_) (fun c41692 => ?_)
          · refine ev_bipush ?_
            refine ev_goto f239_56 ?_
            refine ev_ret rfl (by decide) (by decide) ?_
            show jEv _ _ _ _ _ _ _ (_, [(2, 0), (0, a1), (0, a2), (1, a3), (9, 0), (9, 0)], [(0, (-13))], _, _, _)
            refine ev_istore (L' := [(2, 0), (0, a1), (0, a2), (1, a3), (9, 0), (0, (-13))]) (Nat.le_of_ble_eq_true rfl) rfl ?_
            refine ev_iload rfl ?_
            refine ev_ifeq f214_16 (fun c41693 => absurd c41693 (by omega)) (fun c41693 => ?_)
            refine ev_iload rfl ?_
            exact ev_ret rfl (by decide) (by decide) ⟨_, rfl, by omega, by omega, g, k0⟩
          · refine ev_iload_n rfl ?_
            refine ev_aload_n rfl ?_
            refine g_getp (r := 0) (c := 38) g ad0 (by decide) (by decide) rf0_13 ft11_13 ?_
            refine ev_iload_n rfl ?_
            refine g_iald g ad38 rt38 (by omega) (by omega) (fun v41694 ev41694 lv41694 uv41694 => ?_)
            refine ev_icmplt f239_55 (fun c41695 => ?_) (fun c41695 => ?_)
            · refine ev_iconst ?_
              refine ev_ret rfl (by decide) (by decide) ?_
              show jEv _ _ _ _ _ _ _ (_, [(2, 0), (0, a1), (0, a2), (1, a3), (9, 0), (9, 0)], [(0, 0)], _, _, _)
              refine ev_istore (L' := [(2, 0), (0, a1), (0, a2), (1, a3), (9, 0), (0, 0)]) (Nat.le_of_ble_eq_true rfl) rfl ?_
              refine ev_iload rfl ?_
              refine ev_ifeq f214_16 (fun c41696 => ?_) (fun c41696 => absurd c41696 (by omega))
              refine ev_aload_n rfl ?_
              refine g_getp (r := 0) (c := 39) g ad0 (by decide) (by decide) rf0_14 ft11_14 ?_
              refine ev_bipush ?_
              refine ev_iload_n rfl ?_
              refine ev_imul (r := (60 * a1)) (by unfold w32; omega) ?_
              refine ev_iload_n rfl ?_
              refine ev_iadd (r := (60 * a1 + a2)) (by unfold w32; omega) ?_
              refine ev_aload_n rfl ?_
              refine g_getp (r := 0) (c := 37) g ad0 (by decide) (by decide) rf0_12 ft11_12 ?_
              refine ev_iload_n rfl ?_
              refine g_ialdv (v := v41689) g ad37 (by omega) (by omega) (ev41689) ?_
              refine ev_lload_n rfl ?_
              refine ev_call (jcall_s (A := [(1, a3), (0, v41689)]) (S' := [(0, (60 * a1 + a2)), (2, 39)]) (by decide) rfl (Nat.le_of_ble_eq_true rfl)) (jOk_le (by decide) (s240 g (by omega) (by omega) (by omega) (by omega))) (by decide) (by decide) (fun w41697 h41697 q41697 => ?_)
              obtain ⟨v41698, rfl, lv41698, uv41698, g41697, kk41697⟩ := q41697
              have k41697 := k0.tr kk41697 (by decide)
              show jEv _ _ _ _ _ _ _ (_, [(2, 0), (0, a1), (0, a2), (1, a3), (9, 0), (0, 0)], [(1, v41698), (0, (60 * a1 + a2)), (2, 39)], _, _, _)
              refine g_last g41697 ad39 rt39 (fun _ => rfl) (by omega) (by omega) (by omega) (by omega) (fun h41699 e41699 g41699 => ?_)
              have k41699 := k41697.wr e41699 rfl
              refine ev_iconst ?_
              exact ev_ret rfl (by decide) (by decide) ⟨_, rfl, by omega, by omega, g41699, k41699⟩
            · refine ev_bipush ?_
              refine ev_goto f239_56 ?_
              refine ev_ret rfl (by decide) (by decide) ?_
              show jEv _ _ _ _ _ _ _ (_, [(2, 0), (0, a1), (0, a2), (1, a3), (9, 0), (9, 0)], [(0, (-13))], _, _, _)
              refine ev_istore (L' := [(2, 0), (0, a1), (0, a2), (1, a3), (9, 0), (0, (-13))]) (Nat.le_of_ble_eq_true rfl) rfl ?_
              refine ev_iload rfl ?_
              refine ev_ifeq f214_16 (fun c41700 => absurd c41700 (by omega)) (fun c41700 => ?_)
              refine ev_iload rfl ?_
              exact ev_ret rfl (by decide) (by decide) ⟨_, rfl, by omega, by omega, g, k0⟩
        · refine ev_bipush ?_
          refine ev_ret rfl (by decide) (by decide) ?_
          show jEv _ _ _ _ _ _ _ (_, [(2, 0), (0, a1), (0, a2), (1, a3), (9, 0), (9, 0)], [(0, (-12))], _, _, _)
          refine ev_istore (L' := [(2, 0), (0, a1), (0, a2), (1, a3), (9, 0), (0, (-12))]) (Nat.le_of_ble_eq_true rfl) rfl ?_
          refine ev_iload rfl ?_
          refine ev_ifeq f214_16 (fun c41701 => absurd c41701 (by omega)) (fun c41701 => ?_)
          refine ev_iload rfl ?_
          exact ev_ret rfl (by decide) (by decide) ⟨_, rfl, by omega, by omega, g, k0⟩
      · refine ev_bipush ?_
        refine ev_ret rfl (by decide) (by decide) ?_
        show jEv _ _ _ _ _ _ _ (_, [(2, 0), (0, a1), (0, a2), (1, a3), (9, 0), (9, 0)], [(0, (-11))], _, _, _)
        refine ev_istore (L' := [(2, 0), (0, a1), (0, a2), (1, a3), (9, 0), (0, (-11))]) (Nat.le_of_ble_eq_true rfl) rfl ?_
        refine ev_iload rfl ?_
        refine ev_ifeq f214_16 (fun c41702 => absurd c41702 (by omega)) (fun c41702 => ?_)
        refine ev_iload rfl ?_
        exact ev_ret rfl (by decide) (by decide) ⟨_, rfl, by omega, by omega, g, k0⟩
/-! 215 element -/
set_option maxHeartbeats 4000000 in
theorem s215 {G : GH} {h : JH} (g : Gd G h) {a1 : Int} (la1 : (-2147483648) ≤ a1) (ua1 : a1 ≤ 2147483647) {a2 : Int} (la2 : (-2147483648) ≤ a2) (ua2 : a2 ≤ 2147483647) : jOk 3 0 0 215 [(2, 0), (0, a1), (0, a2)] h (PI G [] h 1 (-9223372036854775808) 9223372036854775807) := by
  refine ⟨by decide, by rw [ml215]; exact Nat.le_of_ble_eq_true rfl, ?_⟩
  rw [ml215, pp215]
  show jEv _ none _ c215_0 0 0 _ (c215_0, [(2, 0), (0, a1), (0, a2)], [], h, 0, 0)
  have k0 := Kp.rf [] h
  refine ev_aload_n rfl ?_
  refine ev_iload_n rfl ?_
  refine ev_iload_n rfl ?_
  refine ev_in (d := 1) (a := 0) (b := 0) (cd' := c239_0) (m := 3) (L0 := [(2, 0), (0, a1), (0, a2)]) (jcall_v (A := [(0, a2), (0, a1)]) (S' := []) (r := 0) rfl (g.lt ad0) (g.tg ad0) (Nat.le_of_ble_eq_true rfl)) (by decide) ml239 pp239 (Nat.le_of_ble_eq_true rfl) rfl (by decide) (by decide) ?_
  refine ev_iload_n rfl ?_
  refine ev_in (d := 0) (a := 0) (b := 0) (cd' := c222_0) (m := 1) (L0 := [(0, a1)]) (jcall_s (A := [(0, a1)]) (S' := []) (by decide) rfl (Nat.le_of_ble_eq_true rfl)) (by decide) ml222 pp222 (Nat.le_of_ble_eq_true rfl) rfl (by decide) (by decide) ?_
  refine ev_iload_n rfl ?_
  refine ev_iflt f222_14 (fun c41741 => ?_) (fun c41741 => ?_)
  · refine ev_iconst ?_
    refine ev_ret rfl (by decide) (by decide) ?_
    show jEv _ _ _ _ _ _ _ (_, [(2, 0), (0, a1), (0, a2)], [(0, 0)], _, _, _)
    refine ev_ifne f239_9 (fun c41742 => absurd c41742 (by omega)) (fun c41742 => ?_)
    refine ev_iconst ?_
    refine ev_ret rfl (by decide) (by decide) ?_
    show jEv _ _ _ _ _ _ _ (_, [(2, 0), (0, a1), (0, a2)], [(0, (-1))], _, _, _)
    refine ev_ifeq f215_15 (fun c41743 => absurd c41743 (by omega)) (fun c41743 => ?_)
    refine ev_ldc2_w ?_
    refine ev_goto f215_26 ?_
    exact ev_ret rfl (by decide) (by decide) ⟨_, rfl, by omega, by omega, g, k0⟩
  · refine ev_iload_n rfl ?_
    refine ev_bipush ?_
    refine ev_icmpge f222_14 (fun c41744 => ?_) (fun c41744 => ?_)
    · refine ev_iconst ?_
      refine ev_ret rfl (by decide) (by decide) ?_
      show jEv _ _ _ _ _ _ _ (_, [(2, 0), (0, a1), (0, a2)], [(0, 0)], _, _, _)
      refine ev_ifne f239_9 (fun c41745 => absurd c41745 (by omega)) (fun c41745 => ?_)
      refine ev_iconst ?_
      refine ev_ret rfl (by decide) (by decide) ?_
      show jEv _ _ _ _ _ _ _ (_, [(2, 0), (0, a1), (0, a2)], [(0, (-1))], _, _, _)
      refine ev_ifeq f215_15 (fun c41746 => absurd c41746 (by omega)) (fun c41746 => ?_)
      refine ev_ldc2_w ?_
      refine ev_goto f215_26 ?_
      exact ev_ret rfl (by decide) (by decide) ⟨_, rfl, by omega, by omega, g, k0⟩
    · refine ev_iconst ?_
      refine ev_goto f222_15 ?_
      refine ev_ret rfl (by decide) (by decide) ?_
      show jEv _ _ _ _ _ _ _ (_, [(2, 0), (0, a1), (0, a2)], [(0, 1)], _, _, _)
      refine ev_ifne f239_9 (fun c41747 => ?_) (fun c41747 => absurd c41747 (by omega))
      refine ev_aload_n rfl ?_
      refine g_getp (r := 0) (c := 37) g ad0 (by decide) (by decide) rf0_12 ft11_12 ?_
      refine ev_iload_n rfl ?_
      refine g_iald g ad37 rt37 (by omega) (by omega) (fun v41748 ev41748 lv41748 uv41748 => ?_)
      refine ev_iconst ?_
      refine ev_icmpne f239_22 (fun c41749 => ?_) (fun c41749 => ?_)
      · refine ev_aload_n rfl ?_
        refine g_getp (r := 0) (c := 37) g ad0 (by decide) (by decide) rf0_12 ft11_12 ?_
        refine ev_iload_n rfl ?_
        refine g_ialdv (v := v41748) g ad37 (by omega) (by omega) (ev41748) ?_
        refine ev_bipush ?_
        refine ev_icmplt f239_36 (fun c41750 => ?_) (fun c41750 => ?_)
        · refine ev_iload_n rfl ?_
          refine ev_iflt f239_50 (fun c41751 => ?_) (fun c41751 => ?_)
          · refine ev_bipush ?_
            refine ev_goto f239_56 ?_
            refine ev_ret rfl (by decide) (by decide) ?_
            show jEv _ _ _ _ _ _ _ (_, [(2, 0), (0, a1), (0, a2)], [(0, (-13))], _, _, _)
            refine ev_ifeq f215_15 (fun c41752 => absurd c41752 (by omega)) (fun c41752 => ?_)
            refine ev_ldc2_w ?_
            refine ev_goto f215_26 ?_
            exact ev_ret rfl (by decide) (by decide) ⟨_, rfl, by omega, by omega, g, k0⟩
          · refine ev_iload_n rfl ?_
            refine ev_aload_n rfl ?_
            refine g_getp (r := 0) (c := 38) g ad0 (by decide) (by decide) rf0_13 ft11_13 ?_
            refine ev_iload_n rfl ?_
            refine g_iald g ad38 rt38 (by omega) (by omega) (fun v41753 ev41753 lv41753 uv41753 => ?_)
            refine ev_icmplt f239_55 (fun c41754 => ?_) (fun c41754 => ?_)
            · refine ev_iconst ?_
              refine ev_ret rfl (by decide) (by decide) ?_
              show jEv _ _ _ _ _ _ _ (_, [(2, 0), (0, a1), (0, a2)], [(0, 0)], _, _, _)
              refine ev_ifeq f215_15 (fun c41755 => ?_) (fun c41755 => absurd c41755 (by omega))
              refine ev_aload_n rfl ?_
              refine g_getp (r := 0) (c := 39) g ad0 (by decide) (by decide) rf0_14 ft11_14 ?_
              refine ev_bipush ?_
              refine ev_iload_n rfl ?_
              refine ev_imul (r := (60 * a1)) (by unfold w32; omega) ?_
              refine ev_iload_n rfl ?_
              refine ev_iadd (r := (60 * a1 + a2)) (by unfold w32; omega) ?_
              refine g_lald g ad39 rt39 (by omega) (by omega) (fun v41756 ev41756 lv41756 uv41756 => ?_)
              exact ev_ret rfl (by decide) (by decide) ⟨_, rfl, by omega, by omega, g, k0⟩
            · refine ev_bipush ?_
              refine ev_goto f239_56 ?_
              refine ev_ret rfl (by decide) (by decide) ?_
              show jEv _ _ _ _ _ _ _ (_, [(2, 0), (0, a1), (0, a2)], [(0, (-13))], _, _, _)
              refine ev_ifeq f215_15 (fun c41757 => absurd c41757 (by omega)) (fun c41757 => ?_)
              refine ev_ldc2_w ?_
              refine ev_goto f215_26 ?_
              exact ev_ret rfl (by decide) (by decide) ⟨_, rfl, by omega, by omega, g, k0⟩
        · refine ev_bipush ?_
          refine ev_ret rfl (by decide) (by decide) ?_
          show jEv _ _ _ _ _ _ _ (_, [(2, 0), (0, a1), (0, a2)], [(0, (-12))], _, _, _)
          refine ev_ifeq f215_15 (fun c41758 => absurd c41758 (by omega)) (fun c41758 => ?_)
          refine ev_ldc2_w ?_
          refine ev_goto f215_26 ?_
          exact ev_ret rfl (by decide) (by decide) ⟨_, rfl, by omega, by omega, g, k0⟩
      · refine ev_bipush ?_
        refine ev_ret rfl (by decide) (by decide) ?_
        show jEv _ _ _ _ _ _ _ (_, [(2, 0), (0, a1), (0, a2)], [(0, (-11))], _, _, _)
        refine ev_ifeq f215_15 (fun c41759 => absurd c41759 (by omega)) (fun c41759 => ?_)
        refine ev_ldc2_w ?_
        refine ev_goto f215_26 ?_
        exact ev_ret rfl (by decide) (by decide) ⟨_, rfl, by omega, by omega, g, k0⟩
/-! 216 shift -/
set_option maxHeartbeats 4000000 in
theorem s216 {G : GH} {h : JH} (g : Gd G h) {a1 : Int} (la1 : (-2147483648) ≤ a1) (ua1 : a1 ≤ 2147483647) {a2 : Int} (la2 : (-2147483648) ≤ a2) (ua2 : a2 ≤ 2147483647) {a3 : Int} (la3 : (-2147483648) ≤ a3) (ua3 : a3 ≤ 2147483647) {a4 : Int} (la4 : (-2147483648) ≤ a4) (ua4 : a4 ≤ 2147483647) {a5 : Int} (la5 : (-2147483648) ≤ a5) (ua5 : a5 ≤ 2147483647) : jOk 2 0 0 216 [(2, 0), (0, a1), (0, a2), (0, a3), (0, a4), (0, a5)] h (PI G [(39, 0)] h 0 (-13) 60) := by
  refine ⟨by decide, by rw [ml216]; exact Nat.le_of_ble_eq_true rfl, ?_⟩
  rw [ml216, pp216]
  show jEv _ none _ c216_0 0 0 _ (c216_0, [(2, 0), (0, a1), (0, a2), (0, a3), (0, a4), (0, a5)], [], h, 0, 0)
  have k0 := Kp.rf [(39, 0)] h
  refine ev_iload_n rfl ?_
  refine ev_in (d := 0) (a := 0) (b := 0) (cd' := c222_0) (m := 1) (L0 := [(0, a1)]) (jcall_s (A := [(0, a1)]) (S' := []) (by decide) rfl (Nat.le_of_ble_eq_true rfl)) (by decide) ml222 pp222 (Nat.le_of_ble_eq_true rfl) rfl (by decide) (by decide) ?_
  refine ev_iload_n rfl ?_
  refine ev_iflt f222_14 (fun c41808 => ?_) (fun c41808 => ?_)
  · refine ev_iconst ?_
    refine ev_ret rfl (by decide) (by decide) ?_
    show jEv _ _ _ _ _ _ _ (_, [(2, 0), (0, a1), (0, a2), (0, a3), (0, a4), (0, a5)], [(0, 0)], _, _, _)
    refine ev_ifeq f216_14 (fun c41809 => ?_) (fun c41809 => absurd c41809 (by omega))
    refine ev_iconst ?_
    exact ev_ret rfl (by decide) (by decide) ⟨_, rfl, by omega, by omega, g, k0⟩
  · refine ev_iload_n rfl ?_
    refine ev_bipush ?_
    refine ev_icmpge f222_14 (fun c41810 => ?_) (fun c41810 => ?_)
    · refine ev_iconst ?_
      refine ev_ret rfl (by decide) (by decide) ?_
      show jEv _ _ _ _ _ _ _ (_, [(2, 0), (0, a1), (0, a2), (0, a3), (0, a4), (0, a5)], [(0, 0)], _, _, _)
      refine ev_ifeq f216_14 (fun c41811 => ?_) (fun c41811 => absurd c41811 (by omega))
      refine ev_iconst ?_
      exact ev_ret rfl (by decide) (by decide) ⟨_, rfl, by omega, by omega, g, k0⟩
    · refine ev_iconst ?_
      refine ev_goto f222_15 ?_
      refine ev_ret rfl (by decide) (by decide) ?_
      show jEv _ _ _ _ _ _ _ (_, [(2, 0), (0, a1), (0, a2), (0, a3), (0, a4), (0, a5)], [(0, 1)], _, _, _)
      refine ev_ifeq f216_14 (fun c41812 => absurd c41812 (by omega)) (fun c41812 => ?_)
      refine ev_iload_n rfl ?_
      refine ev_in (d := 0) (a := 0) (b := 0) (cd' := c222_0) (m := 1) (L0 := [(0, a3)]) (jcall_s (A := [(0, a3)]) (S' := []) (by decide) rfl (Nat.le_of_ble_eq_true rfl)) (by decide) ml222 pp222 (Nat.le_of_ble_eq_true rfl) rfl (by decide) (by decide) ?_
      refine ev_iload_n rfl ?_
      refine ev_iflt f222_14 (fun c41813 => ?_) (fun c41813 => ?_)
      · refine ev_iconst ?_
        refine ev_ret rfl (by decide) (by decide) ?_
        show jEv _ _ _ _ _ _ _ (_, [(2, 0), (0, a1), (0, a2), (0, a3), (0, a4), (0, a5)], [(0, 0)], _, _, _)
        refine ev_ifne f216_16 (fun c41814 => absurd c41814 (by omega)) (fun c41814 => ?_)
        refine ev_iconst ?_
        exact ev_ret rfl (by decide) (by decide) ⟨_, rfl, by omega, by omega, g, k0⟩
      · refine ev_iload_n rfl ?_
        refine ev_bipush ?_
        refine ev_icmpge f222_14 (fun c41815 => ?_) (fun c41815 => ?_)
        · refine ev_iconst ?_
          refine ev_ret rfl (by decide) (by decide) ?_
          show jEv _ _ _ _ _ _ _ (_, [(2, 0), (0, a1), (0, a2), (0, a3), (0, a4), (0, a5)], [(0, 0)], _, _, _)
          refine ev_ifne f216_16 (fun c41816 => absurd c41816 (by omega)) (fun c41816 => ?_)
          refine ev_iconst ?_
          exact ev_ret rfl (by decide) (by decide) ⟨_, rfl, by omega, by omega, g, k0⟩
        · refine ev_iconst ?_
          refine ev_goto f222_15 ?_
          refine ev_ret rfl (by decide) (by decide) ?_
          show jEv _ _ _ _ _ _ _ (_, [(2, 0), (0, a1), (0, a2), (0, a3), (0, a4), (0, a5)], [(0, 1)], _, _, _)
          refine ev_ifne f216_16 (fun c41817 => ?_) (fun c41817 => absurd c41817 (by omega))
          refine ev_aload_n rfl ?_
          refine g_getp (r := 0) (c := 37) g ad0 (by decide) (by decide) rf0_12 ft11_12 ?_
          refine ev_iload_n rfl ?_
          refine g_iald g ad37 rt37 (by omega) (by omega) (fun v41818 ev41818 lv41818 uv41818 => ?_)
          refine ev_iconst ?_
          refine ev_icmpeq f216_36 (fun c41819 => ?_) (fun c41819 => ?_)
          · refine ev_bipush ?_
            exact ev_ret rfl (by decide) (by decide) ⟨_, rfl, by omega, by omega, g, k0⟩
          · refine ev_aload_n rfl ?_
            refine g_getp (r := 0) (c := 37) g ad0 (by decide) (by decide) rf0_12 ft11_12 ?_
            refine ev_iload_n rfl ?_
            refine g_iald g ad37 rt37 (by omega) (by omega) (fun v41820 ev41820 lv41820 uv41820 => ?_)
            refine ev_iconst ?_
            refine ev_icmpne f216_39 (fun c41821 => ?_) (fun c41821 => ?_)
            · refine ev_aload_n rfl ?_
              refine g_getp (r := 0) (c := 37) g ad0 (by decide) (by decide) rf0_12 ft11_12 ?_
              refine ev_iload_n rfl ?_
              refine g_ialdv (v := v41818) g ad37 (by omega) (by omega) (ev41818) ?_
              refine ev_bipush ?_
              refine ev_icmpge f216_65 (fun c41822 => ?_) (fun c41822 => ?_)
              · refine ev_bipush ?_
                exact ev_ret rfl (by decide) (by decide) ⟨_, rfl, by omega, by omega, g, k0⟩
              · refine ev_aload_n rfl ?_
                refine g_getp (r := 0) (c := 37) g ad0 (by decide) (by decide) rf0_12 ft11_12 ?_
                refine ev_iload_n rfl ?_
                refine g_ialdv (v := v41818) g ad37 (by omega) (by omega) (ev41818) ?_
                refine ev_aload_n rfl ?_
                refine g_getp (r := 0) (c := 37) g ad0 (by decide) (by decide) rf0_12 ft11_12 ?_
                refine ev_iload_n rfl ?_
                refine g_ialdv (v := v41820) g ad37 (by omega) (by omega) (ev41820) ?_
                refine ev_icmpeq f216_68 (fun c41823 => ?_) (fun c41823 => ?_)
                · refine ev_iload rfl ?_
                  refine ev_iflt f216_109 (fun c41824 => ?_) (fun c41824 => ?_)
                  · refine ev_bipush ?_
                    exact ev_ret rfl (by decide) (by decide) ⟨_, rfl, by omega, by omega, g, k0⟩
                  · refine ev_iload_n rfl ?_
                    refine ev_iflt f216_109 (fun c41825 => ?_) (fun c41825 => ?_)
                    · refine ev_bipush ?_
                      exact ev_ret rfl (by decide) (by decide) ⟨_, rfl, by omega, by omega, g, k0⟩
                    · refine ev_iload rfl ?_
                      refine ev_iflt f216_109 (fun c41826 => ?_) (fun c41826 => ?_)
                      · refine ev_bipush ?_
                        exact ev_ret rfl (by decide) (by decide) ⟨_, rfl, by omega, by omega, g, k0⟩
                      · refine ev_iload_n rfl ?_
                        refine ev_aload_n rfl ?_
                        refine g_getp (r := 0) (c := 38) g ad0 (by decide) (by decide) rf0_13 ft11_13 ?_
                        refine ev_iload_n rfl ?_
                        refine g_iald g ad38 rt38 (by omega) (by omega) (fun v41827 ev41827 lv41827 uv41827 => ?_)
                        refine ev_iload rfl ?_
                        refine ev_isub (r := ((-a5) + v41827)) (by unfold w32; omega) ?_
                        refine ev_icmpgt f216_109 (fun c41828 => ?_) (fun c41828 => ?_)
                        · refine ev_bipush ?_
                          exact ev_ret rfl (by decide) (by decide) ⟨_, rfl, by omega, by omega, g, k0⟩
                        · refine ev_iload rfl ?_
                          refine ev_aload_n rfl ?_
                          refine g_getp (r := 0) (c := 38) g ad0 (by decide) (by decide) rf0_13 ft11_13 ?_
                          refine ev_iload_n rfl ?_
                          refine g_iald g ad38 rt38 (by omega) (by omega) (fun v41829 ev41829 lv41829 uv41829 => ?_)
                          refine ev_iload rfl ?_
                          refine ev_isub (r := ((-a5) + v41829)) (by unfold w32; omega) ?_
                          refine ev_icmple f216_112 (fun c41830 => ?_) (fun c41830 => ?_)
                          · refine ev_aload_n rfl ?_
                            refine g_getp (r := 0) (c := 39) g ad0 (by decide) (by decide) rf0_14 ft11_14 ?_
                            refine ev_bipush ?_
                            refine ev_iload_n rfl ?_
                            refine ev_imul (r := (60 * a1)) (by unfold w32; omega) ?_
                            refine ev_iload_n rfl ?_
                            refine ev_iadd (r := (60 * a1 + a2)) (by unfold w32; omega) ?_
                            refine ev_aload_n rfl ?_
                            refine g_getp (r := 0) (c := 39) g ad0 (by decide) (by decide) rf0_14 ft11_14 ?_
                            refine ev_bipush ?_
                            refine ev_iload_n rfl ?_
                            refine ev_imul (r := (60 * a3)) (by unfold w32; omega) ?_
                            refine ev_iload rfl ?_
                            refine ev_iadd (r := (60 * a3 + a4)) (by unfold w32; omega) ?_
                            refine ev_iload rfl ?_
                            refine g_copyS g ad39 (by decide) rt39 (fun _ => rfl) (by omega) (by omega) (by omega) (by omega) (by omega) (Nat.le_of_ble_eq_true rfl) (fun h41831 g41831 kk41831 => ?_)
                            have k41831 := k0.tr kk41831 (by decide)
                            refine ev_iload rfl ?_
                            exact ev_ret rfl (by decide) (by decide) ⟨_, rfl, by omega, by omega, g41831, k41831⟩
                          · refine ev_bipush ?_
                            exact ev_ret rfl (by decide) (by decide) ⟨_, rfl, by omega, by omega, g, k0⟩
                · refine ev_bipush ?_
                  exact ev_ret rfl (by decide) (by decide) ⟨_, rfl, by omega, by omega, g, k0⟩
            · refine ev_bipush ?_
              exact ev_ret rfl (by decide) (by decide) ⟨_, rfl, by omega, by omega, g, k0⟩
/-! 217 taken -/
set_option maxHeartbeats 4000000 in
theorem s217 {G : GH} {h : JH} (g : Gd G h) {a1 : Int} (la1 : (-2147483648) ≤ a1) (ua1 : a1 ≤ 2147483647) {a2 : Int} (la2 : (-2147483648) ≤ a2) (ua2 : a2 ≤ 2147483647) : jOk 2 0 0 217 [(2, 0), (0, a1), (0, a2)] h (PI G [] h 0 (-12) 5) := by
  refine ⟨by decide, by rw [ml217]; exact Nat.le_of_ble_eq_true rfl, ?_⟩
  rw [ml217, pp217]
  show jEv _ none _ c217_0 0 0 _ (c217_0, [(2, 0), (0, a1), (0, a2), (9, 0)], [], h, 0, 0)
  have k0 := Kp.rf [] h
  refine ev_iload_n rfl ?_
  refine ev_in (d := 0) (a := 0) (b := 0) (cd' := c222_0) (m := 1) (L0 := [(0, a1)]) (jcall_s (A := [(0, a1)]) (S' := []) (by decide) rfl (Nat.le_of_ble_eq_true rfl)) (by decide) ml222 pp222 (Nat.le_of_ble_eq_true rfl) rfl (by decide) (by decide) ?_
  refine ev_iload_n rfl ?_
  refine ev_iflt f222_14 (fun c41874 => ?_) (fun c41874 => ?_)
  · refine ev_iconst ?_
    refine ev_ret rfl (by decide) (by decide) ?_
    show jEv _ _ _ _ _ _ _ (_, [(2, 0), (0, a1), (0, a2), (9, 0)], [(0, 0)], _, _, _)
    refine ev_ifeq f217_16 (fun c41875 => ?_) (fun c41875 => absurd c41875 (by omega))
    refine ev_iconst ?_
    exact ev_ret rfl (by decide) (by decide) ⟨_, rfl, by omega, by omega, g, k0⟩
  · refine ev_iload_n rfl ?_
    refine ev_bipush ?_
    refine ev_icmpge f222_14 (fun c41876 => ?_) (fun c41876 => ?_)
    · refine ev_iconst ?_
      refine ev_ret rfl (by decide) (by decide) ?_
      show jEv _ _ _ _ _ _ _ (_, [(2, 0), (0, a1), (0, a2), (9, 0)], [(0, 0)], _, _, _)
      refine ev_ifeq f217_16 (fun c41877 => ?_) (fun c41877 => absurd c41877 (by omega))
      refine ev_iconst ?_
      exact ev_ret rfl (by decide) (by decide) ⟨_, rfl, by omega, by omega, g, k0⟩
    · refine ev_iconst ?_
      refine ev_goto f222_15 ?_
      refine ev_ret rfl (by decide) (by decide) ?_
      show jEv _ _ _ _ _ _ _ (_, [(2, 0), (0, a1), (0, a2), (9, 0)], [(0, 1)], _, _, _)
      refine ev_ifeq f217_16 (fun c41878 => absurd c41878 (by omega)) (fun c41878 => ?_)
      refine ev_iload_n rfl ?_
      refine ev_iflt f217_16 (fun c41879 => ?_) (fun c41879 => ?_)
      · refine ev_iconst ?_
        exact ev_ret rfl (by decide) (by decide) ⟨_, rfl, by omega, by omega, g, k0⟩
      · refine ev_iload_n rfl ?_
        refine ev_iconst ?_
        refine ev_icmple f217_18 (fun c41880 => ?_) (fun c41880 => ?_)
        · refine ev_aload_n rfl ?_
          refine g_getp (r := 0) (c := 37) g ad0 (by decide) (by decide) rf0_12 ft11_12 ?_
          refine ev_iload_n rfl ?_
          refine g_iald g ad37 rt37 (by omega) (by omega) (fun v41881 ev41881 lv41881 uv41881 => ?_)
          refine ev_iconst ?_
          refine ev_icmpne f217_31 (fun c41882 => ?_) (fun c41882 => ?_)
          · refine ev_aload_n rfl ?_
            refine ev_aload_n rfl ?_
            refine g_getp (r := 0) (c := 37) g ad0 (by decide) (by decide) rf0_12 ft11_12 ?_
            refine ev_iload_n rfl ?_
            refine g_ialdv (v := v41881) g ad37 (by omega) (by omega) (ev41881) ?_
            refine ev_bipush ?_
            refine ev_isub (r := (v41881 - 10)) (by unfold w32; omega) ?_
            refine ev_in (d := 0) (a := 0) (b := 0) (cd' := c220_0) (m := 2) (L0 := [(2, 0), (0, (v41881 - 10))]) (jcall_v (A := [(0, (v41881 - 10))]) (S' := []) (r := 0) rfl (g.lt ad0) (g.tg ad0) (Nat.le_of_ble_eq_true rfl)) (by decide) ml220 pp220 (Nat.le_of_ble_eq_true rfl) rfl (by decide) (by decide) ?_
            refine ev_iload_n rfl ?_
            refine ev_iflt f220_12 (fun c41883 => ?_) (fun c41883 => ?_)
            · refine ev_aconst_null ?_
              refine ev_goto f220_22 ?_
              refine ev_ret rfl (by decide) (by decide) ?_
              show jEv _ _ _ _ _ _ _ (_, [(2, 0), (0, a1), (0, a2), (9, 0)], [(2, (-1))], _, _, _)
              refine ev_astore_n (L' := [(2, 0), (0, a1), (0, a2), (2, (-1))]) (Nat.le_of_ble_eq_true rfl) rfl ?_
              refine ev_aload_n rfl ?_
              refine ev_ifnull f217_57 (fun c41884 => ?_) (fun c41884 => absurd c41884 (by decide))
              refine ev_bipush ?_
              refine ev_goto f217_66 ?_
              exact ev_ret rfl (by decide) (by decide) ⟨_, rfl, by omega, by omega, g, k0⟩
            · refine ev_iload_n rfl ?_
              refine ev_aload_n rfl ?_
              obtain ⟨v41885, ev41885, lv41885, uv41885⟩ := g.rd ad0 (show 7 < 17 by decide) rf0_7
              refine g_getv (r := 0) (v := v41885) g ad0 (by decide) ft11_7 ev41885 ?_
              refine ev_icmplt f220_16 (fun c41886 => ?_) (fun c41886 => ?_)
              · refine ev_aload_n rfl ?_
                refine g_getp (r := 0) (c := 24) g ad0 (by decide) (by decide) rf0_6 ft11_6 ?_
                refine ev_iload_n rfl ?_
                refine g_faald (g) (i := (v41881 - 10)) (ev41885) (by omega) (by omega) (fun f41887 qf41887 => ?_)
                refine ev_ret rfl (by decide) (by decide) ?_
                show jEv _ _ _ _ _ _ _ (_, [(2, 0), (0, a1), (0, a2), (9, 0)], [(2, (f41887 : Int))], _, _, _)
                refine ev_astore_n (L' := [(2, 0), (0, a1), (0, a2), (2, (f41887 : Int))]) (Nat.le_of_ble_eq_true rfl) rfl ?_
                refine ev_aload_n rfl ?_
                refine ev_ifnull f217_57 (fun c41888 => absurd c41888 (by omega)) (fun c41888 => ?_)
                refine ev_aload_n rfl ?_
                refine ev_iload_n rfl ?_
                refine ev_call (jcall_s (A := [(0, a2), (2, (f41887 : Int))]) (S' := []) (by decide) rfl (Nat.le_of_ble_eq_true rfl)) (jOk_le (by decide) (s226 g qf41887 (by omega) (by omega))) (by decide) (by decide) (fun w41889 h41889 q41889 => ?_)
                obtain ⟨v41890, rfl, lv41890, uv41890, g41889, kk41889⟩ := q41889
                have k41889 := k0.tr kk41889 (by decide)
                show jEv _ _ _ _ _ _ _ (_, [(2, 0), (0, a1), (0, a2), (2, (f41887 : Int))], [(0, v41890)], _, _, _)
                refine ev_ifne f217_62 (fun c41891 => ?_) (fun c41891 => ?_)
                · refine ev_aload_n rfl ?_
                  refine ev_callF (A := []) (S' := []) (r := f41887) rfl (g41889.flt qf41887) (g41889.ffam qf41887) (Nat.le_of_ble_eq_true rfl) (famL (by decide) (fam_kind g41889 qf41887)) (by decide) (by decide) (fun w41892 h41892 q41892 => ?_)
                  obtain ⟨v41893, rfl, lv41893, uv41893, g41892, kk41892⟩ := q41892
                  have k41892 := k41889.tr kk41892 (by decide)
                  show jEv _ _ _ _ _ _ _ (_, [(2, 0), (0, a1), (0, a2), (2, (f41887 : Int))], [(0, v41893)], _, _, _)
                  exact ev_ret rfl (by decide) (by decide) ⟨_, rfl, by omega, by omega, g41892, k41892⟩
                · refine ev_bipush ?_
                  refine ev_goto f217_66 ?_
                  exact ev_ret rfl (by decide) (by decide) ⟨_, rfl, by omega, by omega, g41889, k41889⟩
              · refine ev_aconst_null ?_
                refine ev_goto f220_22 ?_
                refine ev_ret rfl (by decide) (by decide) ?_
                show jEv _ _ _ _ _ _ _ (_, [(2, 0), (0, a1), (0, a2), (9, 0)], [(2, (-1))], _, _, _)
                refine ev_astore_n (L' := [(2, 0), (0, a1), (0, a2), (2, (-1))]) (Nat.le_of_ble_eq_true rfl) rfl ?_
                refine ev_aload_n rfl ?_
                refine ev_ifnull f217_57 (fun c41894 => ?_) (fun c41894 => absurd c41894 (by decide))
                refine ev_bipush ?_
                refine ev_goto f217_66 ?_
                exact ev_ret rfl (by decide) (by decide) ⟨_, rfl, by omega, by omega, g, k0⟩
          · refine ev_bipush ?_
            exact ev_ret rfl (by decide) (by decide) ⟨_, rfl, by omega, by omega, g, k0⟩
        · refine ev_iconst ?_
          exact ev_ret rfl (by decide) (by decide) ⟨_, rfl, by omega, by omega, g, k0⟩
/-! 218 count -/
set_option maxHeartbeats 4000000 in
theorem s218 {G : GH} {h : JH} (g : Gd G h) {a1 : Int} (la1 : (-2147483648) ≤ a1) (ua1 : a1 ≤ 2147483647) : jOk 1 0 0 218 [(2, 0), (0, a1)] h (PI G [] h 0 (-1) 1000) := by
  refine ⟨by decide, by rw [ml218]; exact Nat.le_of_ble_eq_true rfl, ?_⟩
  rw [ml218, pp218]
  show jEv _ none _ c218_0 0 0 _ (c218_0, [(2, 0), (0, a1)], [], h, 0, 0)
  have k0 := Kp.rf [] h
  refine ev_iload_n rfl ?_
  rcases (show a1 = 0 ∨ a1 = 1 ∨ a1 = 2 ∨ a1 = 3 ∨ a1 = 4 ∨ a1 = 5 ∨ a1 < 0 ∨ 5 < a1 by omega) with c41909 | c41909 | c41909 | c41909 | c41909 | c41909 | c41909 | c41909
  · refine ev_sw (t := 40) (by rw [c41909]; decide) f218_40 ?_
    refine ev_aload_n rfl ?_
    refine g_getp (r := 0) (c := 1) g ad0 (by decide) (by decide) rf0_0 ft11_0 ?_
    obtain ⟨v41910, ev41910, lv41910, uv41910⟩ := g.rd ad1 (show 0 < 8 by decide) rf1_0
    refine g_getv (r := 1) (v := v41910) g ad1 (by decide) ft10_0 ev41910 ?_
    exact ev_ret rfl (by decide) (by decide) ⟨_, rfl, by omega, by omega, g, k0⟩
  · refine ev_sw (t := 48) (by rw [c41909]; decide) f218_48 ?_
    refine ev_aload_n rfl ?_
    obtain ⟨v41911, ev41911, lv41911, uv41911⟩ := g.rd ad0 (show 3 < 17 by decide) rf0_3
    refine g_getv (r := 0) (v := v41911) g ad0 (by decide) ft11_3 ev41911 ?_
    exact ev_ret rfl (by decide) (by decide) ⟨_, rfl, by omega, by omega, g, k0⟩
  · refine ev_sw (t := 53) (by rw [c41909]; decide) f218_53 ?_
    refine ev_aload_n rfl ?_
    refine g_getp (r := 0) (c := 7) g ad0 (by decide) (by decide) rf0_1 ft11_1 ?_
    obtain ⟨v41912, ev41912, lv41912, uv41912⟩ := g.rd ad7 (show 0 < 15 by decide) rf7_0
    refine g_getv (r := 7) (v := v41912) g ad7 (by decide) ft5_0 ev41912 ?_
    exact ev_ret rfl (by decide) (by decide) ⟨_, rfl, by omega, by omega, g, k0⟩
  · refine ev_sw (t := 61) (by rw [c41909]; decide) f218_61 ?_
    refine ev_aload_n rfl ?_
    obtain ⟨v41913, ev41913, lv41913, uv41913⟩ := g.rd ad0 (show 7 < 17 by decide) rf0_7
    refine g_getv (r := 0) (v := v41913) g ad0 (by decide) ft11_7 ev41913 ?_
    exact ev_ret rfl (by decide) (by decide) ⟨_, rfl, by omega, by omega, g, k0⟩
  · refine ev_sw (t := 66) (by rw [c41909]; decide) f218_66 ?_
    refine ev_aload_n rfl ?_
    obtain ⟨v41914, ev41914, lv41914, uv41914⟩ := g.rd ad0 (show 9 < 17 by decide) rf0_9
    refine g_getv (r := 0) (v := v41914) g ad0 (by decide) ft11_9 ev41914 ?_
    exact ev_ret rfl (by decide) (by decide) ⟨_, rfl, by omega, by omega, g, k0⟩
  · refine ev_sw (t := 71) (by rw [c41909]; decide) f218_71 ?_
    refine ev_aload_n rfl ?_
    refine g_getp (r := 0) (c := 19) g ad0 (by decide) (by decide) rf0_4 ft11_4 ?_
    obtain ⟨v41915, ev41915, lv41915, uv41915⟩ := g.rd ad19 (show 5 < 6 by decide) rf19_5
    refine g_getv (r := 19) (v := v41915) g ad19 (by decide) ft7_5 ev41915 ?_
    exact ev_ret rfl (by decide) (by decide) ⟨_, rfl, by omega, by omega, g, k0⟩
  · refine ev_sw (t := 79) (by rw [if_pos (show _ ∨ _ by omega)]; rfl) f218_79 ?_
    refine ev_iconst ?_
    exact ev_ret rfl (by decide) (by decide) ⟨_, rfl, by omega, by omega, g, k0⟩
  · refine ev_sw (t := 79) (by rw [if_pos (show _ ∨ _ by omega)]; rfl) f218_79 ?_
    refine ev_iconst ?_
    exact ev_ret rfl (by decide) (by decide) ⟨_, rfl, by omega, by omega, g, k0⟩
/-! 251 sumOf -/
set_option maxHeartbeats 4000000 in
theorem s251 {G : GH} {h : JH} (g : Gd G h) {a1 : Int} (la1 : 0 ≤ a1) (ua1 : a1 ≤ 3) {a2 : Int} (la2 : 0 ≤ a2) (ua2 : a2 ≤ 2) {w0 : Int} (ew0 : h.2.2 42 1 = w0) (lw0 : 0 ≤ w0) (uw0 : w0 ≤ 4) (F0 : (a1 + (-w0)) ≤ (-1)) : jOk 1 0 0 251 [(2, 42), (0, a1), (0, a2)] h (PI G [] h 0 2 297) := by
  refine ⟨by decide, by rw [ml251]; exact Nat.le_of_ble_eq_true rfl, ?_⟩
  rw [ml251, pp251]
  show jEv _ none _ c251_0 0 0 _ (c251_0, [(2, 42), (0, a1), (0, a2), (9, 0), (9, 0)], [], h, 0, 0)
  have k0 := Kp.rf [] h
  refine ev_iconst ?_
  refine ev_istore_n (L' := [(2, 42), (0, a1), (0, a2), (0, 0), (9, 0)]) (Nat.le_of_ble_eq_true rfl) rfl ?_
  refine ev_iconst ?_
  refine ev_istore (L' := [(2, 42), (0, a1), (0, a2), (0, 0), (0, 0)]) (Nat.le_of_ble_eq_true rfl) rfl ?_
  refine ev_iload rfl ?_
  refine ev_aload_n rfl ?_
  refine g_getp (r := 42) (c := 43) g ad42 (by decide) (by decide) rf42_2 ft12_2 ?_
  refine ev_iload_n rfl ?_
  refine g_iald g ad43 rt43 (by omega) (by omega) (fun v41932 ev41932 lv41932 uv41932 => ?_)
  have xv41932 := (g.ex.2.1 (a1 : Int).toNat (by rw [(ew0)]; omega))
  rw [ev41932] at xv41932
  refine ev_icmpge f251_41 (fun c41933 => absurd c41933 (by omega)) (fun c41933 => ?_)
  refine ev_iload_n rfl ?_
  refine ev_aload_n rfl ?_
  refine g_getp (r := 42) (c := 45) g ad42 (by decide) (by decide) rf42_4 ft12_4 ?_
  refine ev_bipush ?_
  refine ev_iload_n rfl ?_
  refine ev_imul (r := (9 * a1)) (by unfold w32; omega) ?_
  refine ev_iconst ?_
  refine ev_iload_n rfl ?_
  refine ev_imul (r := (3 * a2)) (by unfold w32; omega) ?_
  refine ev_iadd (r := (9 * a1 + 3 * a2)) (by unfold w32; omega) ?_
  refine ev_iload rfl ?_
  refine ev_iadd (r := (9 * a1 + 3 * a2)) (by unfold w32; omega) ?_
  refine g_iald g ad45 rt45 (by omega) (by omega) (fun v41934 ev41934 lv41934 uv41934 => ?_)
  have xv41934 := (g.ex.2.2.1 ((9 * a1 + 3 * a2) : Int).toNat (by rw [(ew0)]; omega))
  rw [ev41934] at xv41934
  refine ev_iadd (r := v41934) (by unfold w32; omega) ?_
  refine ev_istore_n (L' := [(2, 42), (0, a1), (0, a2), (0, v41934), (0, 0)]) (Nat.le_of_ble_eq_true rfl) rfl ?_
  refine ev_iinc (w := 1) (L' := [(2, 42), (0, a1), (0, a2), (0, v41934), (0, 1)]) rfl (by decide) rfl ?_
  refine ev_goto f251_5 ?_
  refine ev_iload rfl ?_
  refine ev_aload_n rfl ?_
  refine g_getp (r := 42) (c := 43) g ad42 (by decide) (by decide) rf42_2 ft12_2 ?_
  refine ev_iload_n rfl ?_
  refine g_ialdv (v := v41932) g ad43 (by omega) (by omega) (ev41932) ?_
  refine ev_icmpge f251_41 (fun c41935 => absurd c41935 (by omega)) (fun c41935 => ?_)
  refine ev_iload_n rfl ?_
  refine ev_aload_n rfl ?_
  refine g_getp (r := 42) (c := 45) g ad42 (by decide) (by decide) rf42_4 ft12_4 ?_
  refine ev_bipush ?_
  refine ev_iload_n rfl ?_
  refine ev_imul (r := (9 * a1)) (by unfold w32; omega) ?_
  refine ev_iconst ?_
  refine ev_iload_n rfl ?_
  refine ev_imul (r := (3 * a2)) (by unfold w32; omega) ?_
  refine ev_iadd (r := (9 * a1 + 3 * a2)) (by unfold w32; omega) ?_
  refine ev_iload rfl ?_
  refine ev_iadd (r := (9 * a1 + 3 * a2 + 1)) (by unfold w32; omega) ?_
  refine g_iald g ad45 rt45 (by omega) (by omega) (fun v41936 ev41936 lv41936 uv41936 => ?_)
  have xv41936 := (g.ex.2.2.1 ((9 * a1 + 3 * a2 + 1) : Int).toNat (by rw [(ew0)]; omega))
  rw [ev41936] at xv41936
  refine ev_iadd (r := (v41934 + v41936)) (by unfold w32; omega) ?_
  refine ev_istore_n (L' := [(2, 42), (0, a1), (0, a2), (0, (v41934 + v41936)), (0, 1)]) (Nat.le_of_ble_eq_true rfl) rfl ?_
  refine ev_iinc (w := 2) (L' := [(2, 42), (0, a1), (0, a2), (0, (v41934 + v41936)), (0, 2)]) rfl (by decide) rfl ?_
  refine ev_goto f251_5 ?_
  refine ev_iload rfl ?_
  refine ev_aload_n rfl ?_
  refine g_getp (r := 42) (c := 43) g ad42 (by decide) (by decide) rf42_2 ft12_2 ?_
  refine ev_iload_n rfl ?_
  refine g_ialdv (v := v41932) g ad43 (by omega) (by omega) (ev41932) ?_
  refine ev_icmpge f251_41 (fun c41937 => ?_) (fun c41937 => ?_)
  · refine ev_iload_n rfl ?_
    exact ev_ret rfl (by decide) (by decide) ⟨_, rfl, by omega, by omega, g, k0⟩
  · refine ev_iload_n rfl ?_
    refine ev_aload_n rfl ?_
    refine g_getp (r := 42) (c := 45) g ad42 (by decide) (by decide) rf42_4 ft12_4 ?_
    refine ev_bipush ?_
    refine ev_iload_n rfl ?_
    refine ev_imul (r := (9 * a1)) (by unfold w32; omega) ?_
    refine ev_iconst ?_
    refine ev_iload_n rfl ?_
    refine ev_imul (r := (3 * a2)) (by unfold w32; omega) ?_
    refine ev_iadd (r := (9 * a1 + 3 * a2)) (by unfold w32; omega) ?_
    refine ev_iload rfl ?_
    refine ev_iadd (r := (9 * a1 + 3 * a2 + 2)) (by unfold w32; omega) ?_
    refine g_iald g ad45 rt45 (by omega) (by omega) (fun v41938 ev41938 lv41938 uv41938 => ?_)
    have xv41938 := (g.ex.2.2.1 ((9 * a1 + 3 * a2 + 2) : Int).toNat (by rw [(ew0)]; omega))
    rw [ev41938] at xv41938
    refine ev_iadd (r := (v41934 + v41936 + v41938)) (by unfold w32; omega) ?_
    refine ev_istore_n (L' := [(2, 42), (0, a1), (0, a2), (0, (v41934 + v41936 + v41938)), (0, 2)]) (Nat.le_of_ble_eq_true rfl) rfl ?_
    refine ev_iinc (w := 3) (L' := [(2, 42), (0, a1), (0, a2), (0, (v41934 + v41936 + v41938)), (0, 3)]) rfl (by decide) rfl ?_
    refine ev_goto f251_5 ?_
    refine ev_iload rfl ?_
    refine ev_aload_n rfl ?_
    refine g_getp (r := 42) (c := 43) g ad42 (by decide) (by decide) rf42_2 ft12_2 ?_
    refine ev_iload_n rfl ?_
    refine g_ialdv (v := v41932) g ad43 (by omega) (by omega) (ev41932) ?_
    refine ev_icmpge f251_41 (fun c41939 => ?_) (fun c41939 => absurd c41939 (by omega))
    refine ev_iload_n rfl ?_
    exact ev_ret rfl (by decide) (by decide) ⟨_, rfl, by omega, by omega, g, k0⟩
/-! 244 told -/
set_option maxHeartbeats 4000000 in
theorem s244 {G : GH} {h : JH} (g : Gd G h) {a0 : Int} (la0 : (-9223372036854775808) ≤ a0) (ua0 : a0 ≤ 9223372036854775807) {a1 : Int} (la1 : (-9223372036854775808) ≤ a1) (ua1 : a1 ≤ 9223372036854775807) {a2 : Int} (la2 : (-2147483648) ≤ a2) (ua2 : a2 ≤ 2147483647) : jOk 2 0 0 244 [(1, a0), (1, a1), (0, a2)] h (PI G [] h 1 (-9223372036854775808) 9223372036854775807) := by
  refine ⟨by decide, by rw [ml244]; exact Nat.le_of_ble_eq_true rfl, ?_⟩
  rw [ml244, pp244]
  show jEv _ none _ c244_0 0 0 _ (c244_0, [(1, a0), (9, 0), (1, a1), (9, 0), (0, a2), (9, 0), (9, 0)], [], h, 0, 0)
  have k0 := Kp.rf [] h
  refine ev_lload_n rfl ?_
  refine ev_lload_n rfl ?_
  refine ev_call (jcall_s (A := [(1, a1), (1, a0)]) (S' := []) (by decide) rfl (Nat.le_of_ble_eq_true rfl)) (jOk_le (by decide) (s243 g (by omega) (by omega) (by omega) (by omega))) (by decide) (by decide) (fun w41950 h41950 q41950 => ?_)
  obtain ⟨v41951, rfl, nv41951, lv41951, uv41951, dv41951, g41950, kk41950⟩ := q41950
  have k41950 := k0.tr kk41950 (by decide)
  show jEv _ _ _ _ _ _ _ (_, [(1, a0), (9, 0), (1, a1), (9, 0), (0, a2), (9, 0), (9, 0)], [(1, v41951)], _, _, _)
  refine ev_lstore (L' := [(1, a0), (9, 0), (1, a1), (9, 0), (0, a2), (1, v41951), (9, 0)]) (Nat.le_of_ble_eq_true rfl) rfl ?_
  refine ev_iload rfl ?_
  refine ev_ifne f244_19 (fun c41952 => ?_) (fun c41952 => ?_)
  · refine ev_lload_n rfl ?_
    refine ev_lload rfl ?_
    refine g_ldivG (by omega) (fun v41953 ev41953 lv41953 uv41953 => ?_)
    exact ev_ret rfl (by decide) (by decide) ⟨_, rfl, by omega, by omega, g41950, k41950⟩
  · refine ev_lload_n rfl ?_
    refine ev_lload rfl ?_
    refine g_ldivG (by omega) (fun v41954 ev41954 lv41954 uv41954 => ?_)
    refine ev_goto f244_23 ?_
    exact ev_ret rfl (by decide) (by decide) ⟨_, rfl, by omega, by omega, g41950, k41950⟩
/-! 252 bottomOf -/
set_option maxHeartbeats 4000000 in
theorem s252 {G : GH} {h : JH} (g : Gd G h) {a1 : Int} (la1 : 0 ≤ a1) (ua1 : a1 ≤ 3) {w0 : Int} (ew0 : h.2.2 42 1 = w0) (lw0 : 0 ≤ w0) (uw0 : w0 ≤ 4) (F0 : (a1 + (-w0)) ≤ (-1)) : jOk 2 0 0 252 [(2, 42), (0, a1)] h (PI G [] h 1 1 26198073) := by
  refine ⟨by decide, by rw [ml252]; exact Nat.le_of_ble_eq_true rfl, ?_⟩
  rw [ml252, pp252]
  show jEv _ none _ c252_0 0 0 _ (c252_0, [(2, 42), (0, a1), (9, 0), (9, 0), (9, 0)], [], h, 0, 0)
  have k0 := Kp.rf [] h
  refine ev_lconst ?_
  refine ev_lstore_n (L' := [(2, 42), (0, a1), (1, 1), (9, 0), (9, 0)]) (Nat.le_of_ble_eq_true rfl) rfl ?_
  refine ev_iconst ?_
  refine ev_istore (L' := [(2, 42), (0, a1), (1, 1), (9, 0), (0, 0)]) (Nat.le_of_ble_eq_true rfl) rfl ?_
  refine ev_iload rfl ?_
  refine ev_aload_n rfl ?_
  refine ev_iload_n rfl ?_
  refine ev_in (d := 0) (a := 0) (b := 0) (cd' := c246_0) (m := 2) (L0 := [(2, 42), (0, a1)]) (jcall_v (A := [(0, a1)]) (S' := [(0, 0)]) (r := 42) rfl (g.lt ad42) (g.tg ad42) (Nat.le_of_ble_eq_true rfl)) (by decide) ml246 pp246 (Nat.le_of_ble_eq_true rfl) rfl (by decide) (by decide) ?_
  refine ev_aload_n rfl ?_
  refine g_getp (r := 42) (c := 44) g ad42 (by decide) (by decide) rf42_3 ft12_3 ?_
  refine ev_iload_n rfl ?_
  refine g_iald g ad44 rt44 (by omega) (by omega) (fun v42045 ev42045 lv42045 uv42045 => ?_)
  refine ev_ifge f246_13 (fun c42046 => ?_) (fun c42046 => ?_)
  · refine ev_aload_n rfl ?_
    refine g_getp (r := 42) (c := 43) g ad42 (by decide) (by decide) rf42_2 ft12_2 ?_
    refine ev_aload_n rfl ?_
    refine g_getp (r := 42) (c := 44) g ad42 (by decide) (by decide) rf42_3 ft12_3 ?_
    refine ev_iload_n rfl ?_
    refine g_ialdv (v := v42045) g ad44 (by omega) (by omega) (ev42045) ?_
    refine g_iald g ad43 rt43 (by omega) (by omega) (fun v42047 ev42047 lv42047 uv42047 => ?_)
    refine ev_ret rfl (by decide) (by decide) ?_
    show jEv _ _ _ _ _ _ _ (_, [(2, 42), (0, a1), (1, 1), (9, 0), (0, 0)], [(0, v42047), (0, 0)], _, _, _)
    refine ev_icmpge f252_45 (fun c42048 => ?_) (fun c42048 => ?_)
    · refine ev_lload_n rfl ?_
      exact ev_ret rfl (by decide) (by decide) ⟨_, rfl, by omega, by omega, g, k0⟩
    · refine ev_lload_n rfl ?_
      refine ev_lload_n rfl ?_
      refine ev_aload_n rfl ?_
      refine ev_iload_n rfl ?_
      refine ev_iload rfl ?_
      refine ev_call (jcall_v (A := [(0, 0), (0, a1)]) (S' := [(1, 1), (1, 1)]) (r := 42) rfl (g.lt ad42) (g.tg ad42) (Nat.le_of_ble_eq_true rfl)) (jOk_le (by decide) (s251 g (by omega) (by omega) (by omega) (by omega) (ew0) (by omega) (by omega) (by omega))) (by decide) (by decide) (fun w42049 h42049 q42049 => ?_)
      obtain ⟨v42050, rfl, lv42050, uv42050, g42049, kk42049⟩ := q42049
      have k42049 := k0.tr kk42049 (by decide)
      show jEv _ _ _ _ _ _ _ (_, [(2, 42), (0, a1), (1, 1), (9, 0), (0, 0)], [(0, v42050), (1, 1), (1, 1)], _, _, _)
      refine ev_i2l ?_
      refine ev_call (jcall_s (A := [(1, v42050), (1, 1)]) (S' := [(1, 1)]) (by decide) rfl (Nat.le_of_ble_eq_true rfl)) (jOk_le (by decide) (s243 g42049 (by omega) (by omega) (by omega) (by omega))) (by decide) (by decide) (fun w42051 h42051 q42051 => ?_)
      obtain ⟨v42052, rfl, nv42052, lv42052, uv42052, dv42052, g42051, kk42051⟩ := q42051
      have k42051 := k42049.tr kk42051 (by decide)
      show jEv _ _ _ _ _ _ _ (_, [(2, 42), (0, a1), (1, 1), (9, 0), (0, 0)], [(1, v42052), (1, 1)], _, _, _)
      refine g_ldivD (b := 1) (s := v42050) (by omega) (by omega) (by omega) (dv42052 (by omega) (by omega)) (fun v42053 ev42053 lv42053 uv42053 => ?_)
      refine ev_aload_n rfl ?_
      refine ev_iload_n rfl ?_
      refine ev_iload rfl ?_
      refine ev_call (jcall_v (A := [(0, 0), (0, a1)]) (S' := [(1, v42053)]) (r := 42) rfl (g42051.lt ad42) (g42051.tg ad42) (Nat.le_of_ble_eq_true rfl)) (jOk_le (by decide) (s251 g42051 (by omega) (by omega) (by omega) (by omega) (((kk42051.v (by decide)).trans ((kk42049.v (by decide)).trans ew0))) (by omega) (by omega) (by omega))) (by decide) (by decide) (fun w42054 h42054 q42054 => ?_)
      obtain ⟨v42055, rfl, lv42055, uv42055, g42054, kk42054⟩ := q42054
      have k42054 := k42051.tr kk42054 (by decide)
      show jEv _ _ _ _ _ _ _ (_, [(2, 42), (0, a1), (1, 1), (9, 0), (0, 0)], [(0, v42055), (1, v42053)], _, _, _)
      refine ev_i2l ?_
      refine g_lmulB (a := 1) (b := 297) (a' := 1) (b' := 2) (by omega) (by omega) (by omega) (by omega) (by decide) (lo := 2) (hi := 297) (by decide) (by decide) (fun v42056 ev42056 lv42056 uv42056 => ?_)
      refine ev_lstore_n (L' := [(2, 42), (0, a1), (1, v42056), (9, 0), (0, 0)]) (Nat.le_of_ble_eq_true rfl) rfl ?_
      refine ev_iinc (w := 1) (L' := [(2, 42), (0, a1), (1, v42056), (9, 0), (0, 1)]) rfl (by decide) rfl ?_
      refine ev_goto f252_5 ?_
      refine ev_iload rfl ?_
      refine ev_aload_n rfl ?_
      refine ev_iload_n rfl ?_
      refine ev_in (d := 0) (a := 0) (b := 0) (cd' := c246_0) (m := 2) (L0 := [(2, 42), (0, a1)]) (jcall_v (A := [(0, a1)]) (S' := [(0, 1)]) (r := 42) rfl (g42054.lt ad42) (g42054.tg ad42) (Nat.le_of_ble_eq_true rfl)) (by decide) ml246 pp246 (Nat.le_of_ble_eq_true rfl) rfl (by decide) (by decide) ?_
      refine ev_aload_n rfl ?_
      refine g_getp (r := 42) (c := 44) g42054 ad42 (by decide) (by decide) rf42_3 ft12_3 ?_
      refine ev_iload_n rfl ?_
      refine g_ialdv (v := v42045) g42054 ad44 (by omega) (by omega) (((kk42054.v rfl).trans ((kk42051.v rfl).trans ((kk42049.v rfl).trans ev42045)))) ?_
      refine ev_ifge f246_13 (fun c42057 => ?_) (fun c42057 => absurd c42057 (by omega))
      refine ev_aload_n rfl ?_
      refine g_getp (r := 42) (c := 43) g42054 ad42 (by decide) (by decide) rf42_2 ft12_2 ?_
      refine ev_aload_n rfl ?_
      refine g_getp (r := 42) (c := 44) g42054 ad42 (by decide) (by decide) rf42_3 ft12_3 ?_
      refine ev_iload_n rfl ?_
      refine g_ialdv (v := v42045) g42054 ad44 (by omega) (by omega) (((kk42054.v rfl).trans ((kk42051.v rfl).trans ((kk42049.v rfl).trans ev42045)))) ?_
      refine g_ialdv (v := v42047) g42054 ad43 (by omega) (by omega) (((kk42054.v rfl).trans ((kk42051.v rfl).trans ((kk42049.v rfl).trans ev42047)))) ?_
      refine ev_ret rfl (by decide) (by decide) ?_
      show jEv _ _ _ _ _ _ _ (_, [(2, 42), (0, a1), (1, v42056), (9, 0), (0, 1)], [(0, v42047), (0, 1)], _, _, _)
      refine ev_icmpge f252_45 (fun c42058 => ?_) (fun c42058 => ?_)
      · refine ev_lload_n rfl ?_
        exact ev_ret rfl (by decide) (by decide) ⟨_, rfl, by omega, by omega, g42054, k42054⟩
      · refine ev_lload_n rfl ?_
        refine ev_lload_n rfl ?_
        refine ev_aload_n rfl ?_
        refine ev_iload_n rfl ?_
        refine ev_iload rfl ?_
        refine ev_call (jcall_v (A := [(0, 1), (0, a1)]) (S' := [(1, v42056), (1, v42056)]) (r := 42) rfl (g42054.lt ad42) (g42054.tg ad42) (Nat.le_of_ble_eq_true rfl)) (jOk_le (by decide) (s251 g42054 (by omega) (by omega) (by omega) (by omega) (((kk42054.v (by decide)).trans ((kk42051.v (by decide)).trans ((kk42049.v (by decide)).trans ew0)))) (by omega) (by omega) (by omega))) (by decide) (by decide) (fun w42059 h42059 q42059 => ?_)
        obtain ⟨v42060, rfl, lv42060, uv42060, g42059, kk42059⟩ := q42059
        have k42059 := k42054.tr kk42059 (by decide)
        show jEv _ _ _ _ _ _ _ (_, [(2, 42), (0, a1), (1, v42056), (9, 0), (0, 1)], [(0, v42060), (1, v42056), (1, v42056)], _, _, _)
        refine ev_i2l ?_
        refine ev_call (jcall_s (A := [(1, v42060), (1, v42056)]) (S' := [(1, v42056)]) (by decide) rfl (Nat.le_of_ble_eq_true rfl)) (jOk_le (by decide) (s243 g42059 (by omega) (by omega) (by omega) (by omega))) (by decide) (by decide) (fun w42061 h42061 q42061 => ?_)
        obtain ⟨v42062, rfl, nv42062, lv42062, uv42062, dv42062, g42061, kk42061⟩ := q42061
        have k42061 := k42059.tr kk42061 (by decide)
        show jEv _ _ _ _ _ _ _ (_, [(2, 42), (0, a1), (1, v42056), (9, 0), (0, 1)], [(1, v42062), (1, v42056)], _, _, _)
        refine g_ldivD (b := v42056) (s := v42060) (by omega) (by omega) (by omega) (dv42062 (by omega) (by omega)) (fun v42063 ev42063 lv42063 uv42063 => ?_)
        refine ev_aload_n rfl ?_
        refine ev_iload_n rfl ?_
        refine ev_iload rfl ?_
        refine ev_call (jcall_v (A := [(0, 1), (0, a1)]) (S' := [(1, v42063)]) (r := 42) rfl (g42061.lt ad42) (g42061.tg ad42) (Nat.le_of_ble_eq_true rfl)) (jOk_le (by decide) (s251 g42061 (by omega) (by omega) (by omega) (by omega) (((kk42061.v (by decide)).trans ((kk42059.v (by decide)).trans ((kk42054.v (by decide)).trans ((kk42051.v (by decide)).trans ((kk42049.v (by decide)).trans ew0)))))) (by omega) (by omega) (by omega))) (by decide) (by decide) (fun w42064 h42064 q42064 => ?_)
        obtain ⟨v42065, rfl, lv42065, uv42065, g42064, kk42064⟩ := q42064
        have k42064 := k42061.tr kk42064 (by decide)
        show jEv _ _ _ _ _ _ _ (_, [(2, 42), (0, a1), (1, v42056), (9, 0), (0, 1)], [(0, v42065), (1, v42063)], _, _, _)
        refine ev_i2l ?_
        refine g_lmulB (a := 297) (b := 297) (a' := 1) (b' := 2) (by omega) (by omega) (by omega) (by omega) (by decide) (lo := 2) (hi := 88209) (by decide) (by decide) (fun v42066 ev42066 lv42066 uv42066 => ?_)
        refine ev_lstore_n (L' := [(2, 42), (0, a1), (1, v42066), (9, 0), (0, 1)]) (Nat.le_of_ble_eq_true rfl) rfl ?_
        refine ev_iinc (w := 2) (L' := [(2, 42), (0, a1), (1, v42066), (9, 0), (0, 2)]) rfl (by decide) rfl ?_
        refine ev_goto f252_5 ?_
        refine ev_iload rfl ?_
        refine ev_aload_n rfl ?_
        refine ev_iload_n rfl ?_
        refine ev_in (d := 0) (a := 0) (b := 0) (cd' := c246_0) (m := 2) (L0 := [(2, 42), (0, a1)]) (jcall_v (A := [(0, a1)]) (S' := [(0, 2)]) (r := 42) rfl (g42064.lt ad42) (g42064.tg ad42) (Nat.le_of_ble_eq_true rfl)) (by decide) ml246 pp246 (Nat.le_of_ble_eq_true rfl) rfl (by decide) (by decide) ?_
        refine ev_aload_n rfl ?_
        refine g_getp (r := 42) (c := 44) g42064 ad42 (by decide) (by decide) rf42_3 ft12_3 ?_
        refine ev_iload_n rfl ?_
        refine g_ialdv (v := v42045) g42064 ad44 (by omega) (by omega) (((kk42064.v rfl).trans ((kk42061.v rfl).trans ((kk42059.v rfl).trans ((kk42054.v rfl).trans ((kk42051.v rfl).trans ((kk42049.v rfl).trans ev42045))))))) ?_
        refine ev_ifge f246_13 (fun c42067 => ?_) (fun c42067 => absurd c42067 (by omega))
        refine ev_aload_n rfl ?_
        refine g_getp (r := 42) (c := 43) g42064 ad42 (by decide) (by decide) rf42_2 ft12_2 ?_
        refine ev_aload_n rfl ?_
        refine g_getp (r := 42) (c := 44) g42064 ad42 (by decide) (by decide) rf42_3 ft12_3 ?_
        refine ev_iload_n rfl ?_
        refine g_ialdv (v := v42045) g42064 ad44 (by omega) (by omega) (((kk42064.v rfl).trans ((kk42061.v rfl).trans ((kk42059.v rfl).trans ((kk42054.v rfl).trans ((kk42051.v rfl).trans ((kk42049.v rfl).trans ev42045))))))) ?_
        refine g_ialdv (v := v42047) g42064 ad43 (by omega) (by omega) (((kk42064.v rfl).trans ((kk42061.v rfl).trans ((kk42059.v rfl).trans ((kk42054.v rfl).trans ((kk42051.v rfl).trans ((kk42049.v rfl).trans ev42047))))))) ?_
        refine ev_ret rfl (by decide) (by decide) ?_
        show jEv _ _ _ _ _ _ _ (_, [(2, 42), (0, a1), (1, v42066), (9, 0), (0, 2)], [(0, v42047), (0, 2)], _, _, _)
        refine ev_icmpge f252_45 (fun c42068 => ?_) (fun c42068 => ?_)
        · refine ev_lload_n rfl ?_
          exact ev_ret rfl (by decide) (by decide) ⟨_, rfl, by omega, by omega, g42064, k42064⟩
        · refine ev_lload_n rfl ?_
          refine ev_lload_n rfl ?_
          refine ev_aload_n rfl ?_
          refine ev_iload_n rfl ?_
          refine ev_iload rfl ?_
          refine ev_call (jcall_v (A := [(0, 2), (0, a1)]) (S' := [(1, v42066), (1, v42066)]) (r := 42) rfl (g42064.lt ad42) (g42064.tg ad42) (Nat.le_of_ble_eq_true rfl)) (jOk_le (by decide) (s251 g42064 (by omega) (by omega) (by omega) (by omega) (((kk42064.v (by decide)).trans ((kk42061.v (by decide)).trans ((kk42059.v (by decide)).trans ((kk42054.v (by decide)).trans ((kk42051.v (by decide)).trans ((kk42049.v (by decide)).trans ew0))))))) (by omega) (by omega) (by omega))) (by decide) (by decide) (fun w42069 h42069 q42069 => ?_)
          obtain ⟨v42070, rfl, lv42070, uv42070, g42069, kk42069⟩ := q42069
          have k42069 := k42064.tr kk42069 (by decide)
          show jEv _ _ _ _ _ _ _ (_, [(2, 42), (0, a1), (1, v42066), (9, 0), (0, 2)], [(0, v42070), (1, v42066), (1, v42066)], _, _, _)
          refine ev_i2l ?_
          refine ev_call (jcall_s (A := [(1, v42070), (1, v42066)]) (S' := [(1, v42066)]) (by decide) rfl (Nat.le_of_ble_eq_true rfl)) (jOk_le (by decide) (s243 g42069 (by omega) (by omega) (by omega) (by omega))) (by decide) (by decide) (fun w42071 h42071 q42071 => ?_)
          obtain ⟨v42072, rfl, nv42072, lv42072, uv42072, dv42072, g42071, kk42071⟩ := q42071
          have k42071 := k42069.tr kk42071 (by decide)
          show jEv _ _ _ _ _ _ _ (_, [(2, 42), (0, a1), (1, v42066), (9, 0), (0, 2)], [(1, v42072), (1, v42066)], _, _, _)
          refine g_ldivD (b := v42066) (s := v42070) (by omega) (by omega) (by omega) (dv42072 (by omega) (by omega)) (fun v42073 ev42073 lv42073 uv42073 => ?_)
          refine ev_aload_n rfl ?_
          refine ev_iload_n rfl ?_
          refine ev_iload rfl ?_
          refine ev_call (jcall_v (A := [(0, 2), (0, a1)]) (S' := [(1, v42073)]) (r := 42) rfl (g42071.lt ad42) (g42071.tg ad42) (Nat.le_of_ble_eq_true rfl)) (jOk_le (by decide) (s251 g42071 (by omega) (by omega) (by omega) (by omega) (((kk42071.v (by decide)).trans ((kk42069.v (by decide)).trans ((kk42064.v (by decide)).trans ((kk42061.v (by decide)).trans ((kk42059.v (by decide)).trans ((kk42054.v (by decide)).trans ((kk42051.v (by decide)).trans ((kk42049.v (by decide)).trans ew0))))))))) (by omega) (by omega) (by omega))) (by decide) (by decide) (fun w42074 h42074 q42074 => ?_)
          obtain ⟨v42075, rfl, lv42075, uv42075, g42074, kk42074⟩ := q42074
          have k42074 := k42071.tr kk42074 (by decide)
          show jEv _ _ _ _ _ _ _ (_, [(2, 42), (0, a1), (1, v42066), (9, 0), (0, 2)], [(0, v42075), (1, v42073)], _, _, _)
          refine ev_i2l ?_
          refine g_lmulB (a := 88209) (b := 297) (a' := 1) (b' := 2) (by omega) (by omega) (by omega) (by omega) (by decide) (lo := 2) (hi := 26198073) (by decide) (by decide) (fun v42076 ev42076 lv42076 uv42076 => ?_)
          refine ev_lstore_n (L' := [(2, 42), (0, a1), (1, v42076), (9, 0), (0, 2)]) (Nat.le_of_ble_eq_true rfl) rfl ?_
          refine ev_iinc (w := 3) (L' := [(2, 42), (0, a1), (1, v42076), (9, 0), (0, 3)]) rfl (by decide) rfl ?_
          refine ev_goto f252_5 ?_
          refine ev_iload rfl ?_
          refine ev_aload_n rfl ?_
          refine ev_iload_n rfl ?_
          refine ev_in (d := 0) (a := 0) (b := 0) (cd' := c246_0) (m := 2) (L0 := [(2, 42), (0, a1)]) (jcall_v (A := [(0, a1)]) (S' := [(0, 3)]) (r := 42) rfl (g42074.lt ad42) (g42074.tg ad42) (Nat.le_of_ble_eq_true rfl)) (by decide) ml246 pp246 (Nat.le_of_ble_eq_true rfl) rfl (by decide) (by decide) ?_
          refine ev_aload_n rfl ?_
          refine g_getp (r := 42) (c := 44) g42074 ad42 (by decide) (by decide) rf42_3 ft12_3 ?_
          refine ev_iload_n rfl ?_
          refine g_ialdv (v := v42045) g42074 ad44 (by omega) (by omega) (((kk42074.v rfl).trans ((kk42071.v rfl).trans ((kk42069.v rfl).trans ((kk42064.v rfl).trans ((kk42061.v rfl).trans ((kk42059.v rfl).trans ((kk42054.v rfl).trans ((kk42051.v rfl).trans ((kk42049.v rfl).trans ev42045)))))))))) ?_
          refine ev_ifge f246_13 (fun c42077 => ?_) (fun c42077 => absurd c42077 (by omega))
          refine ev_aload_n rfl ?_
          refine g_getp (r := 42) (c := 43) g42074 ad42 (by decide) (by decide) rf42_2 ft12_2 ?_
          refine ev_aload_n rfl ?_
          refine g_getp (r := 42) (c := 44) g42074 ad42 (by decide) (by decide) rf42_3 ft12_3 ?_
          refine ev_iload_n rfl ?_
          refine g_ialdv (v := v42045) g42074 ad44 (by omega) (by omega) (((kk42074.v rfl).trans ((kk42071.v rfl).trans ((kk42069.v rfl).trans ((kk42064.v rfl).trans ((kk42061.v rfl).trans ((kk42059.v rfl).trans ((kk42054.v rfl).trans ((kk42051.v rfl).trans ((kk42049.v rfl).trans ev42045)))))))))) ?_
          refine g_ialdv (v := v42047) g42074 ad43 (by omega) (by omega) (((kk42074.v rfl).trans ((kk42071.v rfl).trans ((kk42069.v rfl).trans ((kk42064.v rfl).trans ((kk42061.v rfl).trans ((kk42059.v rfl).trans ((kk42054.v rfl).trans ((kk42051.v rfl).trans ((kk42049.v rfl).trans ev42047)))))))))) ?_
          refine ev_ret rfl (by decide) (by decide) ?_
          show jEv _ _ _ _ _ _ _ (_, [(2, 42), (0, a1), (1, v42076), (9, 0), (0, 3)], [(0, v42047), (0, 3)], _, _, _)
          refine ev_icmpge f252_45 (fun c42078 => ?_) (fun c42078 => absurd c42078 (by omega))
          refine ev_lload_n rfl ?_
          exact ev_ret rfl (by decide) (by decide) ⟨_, rfl, by omega, by omega, g42074, k42074⟩
  · refine ev_iconst ?_
    refine ev_goto f246_24 ?_
    refine ev_ret rfl (by decide) (by decide) ?_
    show jEv _ _ _ _ _ _ _ (_, [(2, 42), (0, a1), (1, 1), (9, 0), (0, 0)], [(0, 1), (0, 0)], _, _, _)
    refine ev_icmpge f252_45 (fun c42079 => absurd c42079 (by omega)) (fun c42079 => ?_)
    refine ev_lload_n rfl ?_
    refine ev_lload_n rfl ?_
    refine ev_aload_n rfl ?_
    refine ev_iload_n rfl ?_
    refine ev_iload rfl ?_
    refine ev_call (jcall_v (A := [(0, 0), (0, a1)]) (S' := [(1, 1), (1, 1)]) (r := 42) rfl (g.lt ad42) (g.tg ad42) (Nat.le_of_ble_eq_true rfl)) (jOk_le (by decide) (s251 g (by omega) (by omega) (by omega) (by omega) (ew0) (by omega) (by omega) (by omega))) (by decide) (by decide) (fun w42080 h42080 q42080 => ?_)
    obtain ⟨v42081, rfl, lv42081, uv42081, g42080, kk42080⟩ := q42080
    have k42080 := k0.tr kk42080 (by decide)
    show jEv _ _ _ _ _ _ _ (_, [(2, 42), (0, a1), (1, 1), (9, 0), (0, 0)], [(0, v42081), (1, 1), (1, 1)], _, _, _)
    refine ev_i2l ?_
    refine ev_call (jcall_s (A := [(1, v42081), (1, 1)]) (S' := [(1, 1)]) (by decide) rfl (Nat.le_of_ble_eq_true rfl)) (jOk_le (by decide) (s243 g42080 (by omega) (by omega) (by omega) (by omega))) (by decide) (by decide) (fun w42082 h42082 q42082 => ?_)
    obtain ⟨v42083, rfl, nv42083, lv42083, uv42083, dv42083, g42082, kk42082⟩ := q42082
    have k42082 := k42080.tr kk42082 (by decide)
    show jEv _ _ _ _ _ _ _ (_, [(2, 42), (0, a1), (1, 1), (9, 0), (0, 0)], [(1, v42083), (1, 1)], _, _, _)
    refine g_ldivD (b := 1) (s := v42081) (by omega) (by omega) (by omega) (dv42083 (by omega) (by omega)) (fun v42084 ev42084 lv42084 uv42084 => ?_)
    refine ev_aload_n rfl ?_
    refine ev_iload_n rfl ?_
    refine ev_iload rfl ?_
    refine ev_call (jcall_v (A := [(0, 0), (0, a1)]) (S' := [(1, v42084)]) (r := 42) rfl (g42082.lt ad42) (g42082.tg ad42) (Nat.le_of_ble_eq_true rfl)) (jOk_le (by decide) (s251 g42082 (by omega) (by omega) (by omega) (by omega) (((kk42082.v (by decide)).trans ((kk42080.v (by decide)).trans ew0))) (by omega) (by omega) (by omega))) (by decide) (by decide) (fun w42085 h42085 q42085 => ?_)
    obtain ⟨v42086, rfl, lv42086, uv42086, g42085, kk42085⟩ := q42085
    have k42085 := k42082.tr kk42085 (by decide)
    show jEv _ _ _ _ _ _ _ (_, [(2, 42), (0, a1), (1, 1), (9, 0), (0, 0)], [(0, v42086), (1, v42084)], _, _, _)
    refine ev_i2l ?_
    refine g_lmulB (a := 1) (b := 297) (a' := 1) (b' := 2) (by omega) (by omega) (by omega) (by omega) (by decide) (lo := 2) (hi := 297) (by decide) (by decide) (fun v42087 ev42087 lv42087 uv42087 => ?_)
    refine ev_lstore_n (L' := [(2, 42), (0, a1), (1, v42087), (9, 0), (0, 0)]) (Nat.le_of_ble_eq_true rfl) rfl ?_
    refine ev_iinc (w := 1) (L' := [(2, 42), (0, a1), (1, v42087), (9, 0), (0, 1)]) rfl (by decide) rfl ?_
    refine ev_goto f252_5 ?_
    refine ev_iload rfl ?_
    refine ev_aload_n rfl ?_
    refine ev_iload_n rfl ?_
    refine ev_in (d := 0) (a := 0) (b := 0) (cd' := c246_0) (m := 2) (L0 := [(2, 42), (0, a1)]) (jcall_v (A := [(0, a1)]) (S' := [(0, 1)]) (r := 42) rfl (g42085.lt ad42) (g42085.tg ad42) (Nat.le_of_ble_eq_true rfl)) (by decide) ml246 pp246 (Nat.le_of_ble_eq_true rfl) rfl (by decide) (by decide) ?_
    refine ev_aload_n rfl ?_
    refine g_getp (r := 42) (c := 44) g42085 ad42 (by decide) (by decide) rf42_3 ft12_3 ?_
    refine ev_iload_n rfl ?_
    refine g_ialdv (v := v42045) g42085 ad44 (by omega) (by omega) (((kk42085.v rfl).trans ((kk42082.v rfl).trans ((kk42080.v rfl).trans ev42045)))) ?_
    refine ev_ifge f246_13 (fun c42088 => absurd c42088 (by omega)) (fun c42088 => ?_)
    refine ev_iconst ?_
    refine ev_goto f246_24 ?_
    refine ev_ret rfl (by decide) (by decide) ?_
    show jEv _ _ _ _ _ _ _ (_, [(2, 42), (0, a1), (1, v42087), (9, 0), (0, 1)], [(0, 1), (0, 1)], _, _, _)
    refine ev_icmpge f252_45 (fun c42089 => ?_) (fun c42089 => absurd c42089 (by omega))
    refine ev_lload_n rfl ?_
    exact ev_ret rfl (by decide) (by decide) ⟨_, rfl, by omega, by omega, g42085, k42085⟩
/-! 253 bottomNow -/
set_option maxHeartbeats 4000000 in
theorem s253_l {G : GH} {h : JH}  : ∀ N : Nat, (∀ (h1 : JH) (x1 x3 : Int) (j4 : AV), Gd G h1 → Kp [] h h1 → 1 ≤ x1 → x1 ≤ 1000000000000 → 0 ≤ x3 → x3 ≤ 4 → ((-x3) + 4) < N → jEv (jOk 2) none (fun _ => 0) c253_0 0 0 (PI G [] h 1 (-4) 1000000000000) (c253_4, [(2, 42), (1, x1), (9, 0), (0, x3), j4, (9, 0)], [], h1, 0, 0)) := by
  intro N
  induction N with
  | zero => exact fun h1 x1 x3 j4 g1 k1 b0 b1 b2 b3 hm => absurd hm (by omega)
  | succ N ih =>
    show _
    intro h1 x1 x3 j4 g1 k1 b0 b1 b2 b3 hm
    refine ev_iload_n rfl ?_
    refine ev_aload_n rfl ?_
    obtain ⟨v42132, ev42132, lv42132, uv42132⟩ := g1.rd ad42 (show 1 < 66 by decide) rf42_1
    refine g_getv (r := 42) (v := v42132) g1 ad42 (by decide) ft12_1 ev42132 ?_
    refine ev_icmpge f253_45 (fun c42133 => ?_) (fun c42133 => ?_)
    · refine ev_lload_n rfl ?_
      exact ev_ret rfl (by decide) (by decide) ⟨_, rfl, by omega, by omega, g1, k1⟩
    · refine ev_aload_n rfl ?_
      refine ev_iload_n rfl ?_
      refine ev_call (jcall_v (A := [(0, x3)]) (S' := []) (r := 42) rfl (g1.lt ad42) (g1.tg ad42) (Nat.le_of_ble_eq_true rfl)) (jOk_le (by decide) (s252 g1 (by omega) (by omega) (ev42132) (by omega) (by omega) (by omega))) (by decide) (by decide) (fun w42134 h42134 q42134 => ?_)
      obtain ⟨v42135, rfl, lv42135, uv42135, g42134, kk42134⟩ := q42134
      have k42134 := k1.tr kk42134 (by decide)
      show jEv _ _ _ _ _ _ _ (_, [(2, 42), (1, x1), (9, 0), (0, x3), j4, (9, 0)], [(1, v42135)], _, _, _)
      refine ev_lstore (L' := [(2, 42), (1, x1), (9, 0), (0, x3), (1, v42135), (9, 0)]) (Nat.le_of_ble_eq_true rfl) rfl ?_
      refine ev_lload_n rfl ?_
      refine ev_ldc2_w ?_
      refine ev_lload rfl ?_
      refine g_ldivM (by omega) (by omega) (by omega) (fun v42136 ev42136 lv42136 uv42136 => ?_)
      refine ev_lcmp ?_
      refine ev_ifle f253_34 (fun c42137 => ?_) (fun c42137 => ?_)
      · have c42137b := jcmpL_le c42137
        refine ev_lload_n rfl ?_
        refine ev_lload rfl ?_
        refine g_lmulM (M := 1000000000000) (by omega) (by omega) ev42136 (by decide) (by decide) (by omega) (fun v42138 ev42138 lv42138 uv42138 => ?_)
        refine ev_lstore_n (L' := [(2, 42), (1, v42138), (9, 0), (0, x3), (1, v42135), (9, 0)]) (Nat.le_of_ble_eq_true rfl) rfl ?_
        refine ev_iinc (w := (x3 + 1)) (L' := [(2, 42), (1, v42138), (9, 0), (0, (x3 + 1)), (1, v42135), (9, 0)]) rfl (by unfold w32; omega) rfl ?_
        refine ev_goto f253_4 ?_
        exact ih _ _ _ _ g42134 k42134 (by omega) (by omega) (by omega) (by omega) (by omega)
      · have c42137b := jcmpL_leN c42137
        refine ev_ldc2_w ?_
        exact ev_ret rfl (by decide) (by decide) ⟨_, rfl, by omega, by omega, g42134, k42134⟩
set_option maxHeartbeats 4000000 in
theorem s253 {G : GH} {h : JH} (g : Gd G h)  : jOk 3 0 0 253 [(2, 42)] h (PI G [] h 1 (-4) 1000000000000) := by
  refine ⟨by decide, by rw [ml253]; exact Nat.le_of_ble_eq_true rfl, ?_⟩
  rw [ml253, pp253]
  show jEv _ none _ c253_0 0 0 _ (c253_0, [(2, 42), (9, 0), (9, 0), (9, 0), (9, 0), (9, 0)], [], h, 0, 0)
  have k0 := Kp.rf [] h
  refine ev_lconst ?_
  refine ev_lstore_n (L' := [(2, 42), (1, 1), (9, 0), (9, 0), (9, 0), (9, 0)]) (Nat.le_of_ble_eq_true rfl) rfl ?_
  refine ev_iconst ?_
  refine ev_istore_n (L' := [(2, 42), (1, 1), (9, 0), (0, 0), (9, 0), (9, 0)]) (Nat.le_of_ble_eq_true rfl) rfl ?_
  exact (s253_l  10) _ _ _ _ g k0 (by omega) (by omega) (by omega) (by omega) (by omega)
/-! 254 bottom -/
set_option maxHeartbeats 4000000 in
theorem s254 {G : GH} {h : JH} (g : Gd G h)  : jOk 4 0 0 254 [(2, 42)] h (PI G [] h 1 (-4) 1000000000000) := by
  refine ⟨by decide, by rw [ml254]; exact Nat.le_of_ble_eq_true rfl, ?_⟩
  rw [ml254, pp254]
  show jEv _ none _ c254_0 0 0 _ (c254_0, [(2, 42)], [], h, 0, 0)
  have k0 := Kp.rf [] h
  refine ev_aload_n rfl ?_
  refine ev_call (jcall_v (A := []) (S' := []) (r := 42) rfl (g.lt ad42) (g.tg ad42) (Nat.le_of_ble_eq_true rfl)) (jOk_le (by decide) (s253 g )) (by decide) (by decide) (fun w42143 h42143 q42143 => ?_)
  obtain ⟨v42144, rfl, lv42144, uv42144, g42143, kk42143⟩ := q42143
  have k42143 := k0.tr kk42143 (by decide)
  show jEv _ _ _ _ _ _ _ (_, [(2, 42)], [(1, v42144)], _, _, _)
  exact ev_ret rfl (by decide) (by decide) ⟨_, rfl, by omega, by omega, g42143, k42143⟩
/-! 255 numberOf -/
set_option maxHeartbeats 4000000 in
theorem s255_l {G : GH} {h : JH} {a1 : Int} (la1 : 0 ≤ a1) (ua1 : a1 ≤ 80) : ∀ N : Nat, (∀ (h1 : JH) (x2 x4 : Int) (j5 : AV), Gd G h1 → Kp [] h h1 → 0 ≤ a1 → a1 ≤ 80 → (-9223372036854775808) ≤ x2 → x2 ≤ 9223372036854775807 → 0 ≤ x4 → x4 ≤ 4 → ((-x4) + 4) < N → jEv (jOk 2) none (fun _ => 0) c255_0 0 0 (PI G [] h 1 (-9223372036854775808) 9223372036854775807) (c255_5, [(2, 42), (0, a1), (1, x2), (9, 0), (0, x4), j5], [], h1, 0, 0)) := by
  intro N
  induction N with
  | zero => exact fun h1 x2 x4 j5 g1 k1 b0 b1 b2 b3 b4 b5 hm => absurd hm (by omega)
  | succ N ih =>
    show _
    intro h1 x2 x4 j5 g1 k1 b0 b1 b2 b3 b4 b5 hm
    refine ev_iload rfl ?_
    refine ev_aload_n rfl ?_
    obtain ⟨v42281, ev42281, lv42281, uv42281⟩ := g1.rd ad42 (show 1 < 66 by decide) rf42_1
    refine g_getv (r := 42) (v := v42281) g1 ad42 (by decide) ft12_1 ev42281 ?_
    refine ev_icmpge f255_100 (fun c42282 => ?_) (fun c42282 => ?_)
    · refine ev_lload_n rfl ?_
      exact ev_ret rfl (by decide) (by decide) ⟨_, rfl, by omega, by omega, g1, k1⟩
    · refine ev_aload_n rfl ?_
      refine g_getp (r := 42) (c := 44) g1 ad42 (by decide) (by decide) rf42_3 ft12_3 ?_
      refine ev_iload rfl ?_
      refine g_iald g1 ad44 rt44 (by omega) (by omega) (fun v42283 ev42283 lv42283 uv42283 => ?_)
      refine ev_ifge f255_28 (fun c42284 => ?_) (fun c42284 => ?_)
      · refine ev_aload_n rfl ?_
        refine g_getp (r := 42) (c := 46) g1 ad42 (by decide) (by decide) rf42_6 ft12_6 ?_
        refine ev_iconst ?_
        refine ev_iload_n rfl ?_
        refine ev_imul (r := (4 * a1)) (by unfold w32; omega) ?_
        refine ev_aload_n rfl ?_
        refine g_getp (r := 42) (c := 44) g1 ad42 (by decide) (by decide) rf42_3 ft12_3 ?_
        refine ev_iload rfl ?_
        refine g_ialdv (v := v42283) g1 ad44 (by omega) (by omega) (ev42283) ?_
        refine ev_iadd (r := (4 * a1 + v42283)) (by unfold w32; omega) ?_
        refine g_iald g1 ad46 rt46 (by omega) (by omega) (fun v42285 ev42285 lv42285 uv42285 => ?_)
        refine ev_istore (L' := [(2, 42), (0, a1), (1, x2), (9, 0), (0, x4), (0, v42285)]) (Nat.le_of_ble_eq_true rfl) rfl ?_
        refine ev_lload_n rfl ?_
        refine ev_aload_n rfl ?_
        refine g_getp (r := 42) (c := 45) g1 ad42 (by decide) (by decide) rf42_4 ft12_4 ?_
        refine ev_bipush ?_
        refine ev_iload rfl ?_
        refine ev_imul (r := (9 * x4)) (by unfold w32; omega) ?_
        refine ev_iconst ?_
        refine ev_iload rfl ?_
        refine ev_imul (r := (3 * v42285)) (by unfold w32; omega) ?_
        refine ev_iadd (r := (3 * v42285 + 9 * x4)) (by unfold w32; omega) ?_
        refine ev_aload_n rfl ?_
        refine g_getp (r := 42) (c := 46) g1 ad42 (by decide) (by decide) rf42_6 ft12_6 ?_
        refine ev_iconst ?_
        refine ev_iload_n rfl ?_
        refine ev_imul (r := (4 * a1)) (by unfold w32; omega) ?_
        refine ev_iload rfl ?_
        refine ev_iadd (r := (4 * a1 + x4)) (by unfold w32; omega) ?_
        refine g_iald g1 ad46 rt46 (by omega) (by omega) (fun v42286 ev42286 lv42286 uv42286 => ?_)
        refine ev_iadd (r := (3 * v42285 + v42286 + 9 * x4)) (by unfold w32; omega) ?_
        refine g_iald g1 ad45 rt45 (by omega) (by omega) (fun v42287 ev42287 lv42287 uv42287 => ?_)
        have xv42287 := (g1.ex.2.2.1 ((3 * v42285 + v42286 + 9 * x4) : Int).toNat (by rw [(ev42281)]; omega))
        rw [ev42287] at xv42287
        refine ev_i2l ?_
        refine ev_aload_n rfl ?_
        refine ev_iload rfl ?_
        refine ev_call (jcall_v (A := [(0, x4)]) (S' := [(1, v42287), (1, x2)]) (r := 42) rfl (g1.lt ad42) (g1.tg ad42) (Nat.le_of_ble_eq_true rfl)) (jOk_le (by decide) (s252 g1 (by omega) (by omega) (ev42281) (by omega) (by omega) (by omega))) (by decide) (by decide) (fun w42288 h42288 q42288 => ?_)
        obtain ⟨v42289, rfl, lv42289, uv42289, g42288, kk42288⟩ := q42288
        have k42288 := k1.tr kk42288 (by decide)
        show jEv _ _ _ _ _ _ _ (_, [(2, 42), (0, a1), (1, x2), (9, 0), (0, x4), (0, v42285)], [(1, v42289), (1, v42287), (1, x2)], _, _, _)
        refine ev_aload_n rfl ?_
        refine ev_iload rfl ?_
        refine ev_iload rfl ?_
        refine ev_call (jcall_v (A := [(0, v42285), (0, x4)]) (S' := [(1, v42289), (1, v42287), (1, x2)]) (r := 42) rfl (g42288.lt ad42) (g42288.tg ad42) (Nat.le_of_ble_eq_true rfl)) (jOk_le (by decide) (s251 g42288 (by omega) (by omega) (by omega) (by omega) (((kk42288.v (by decide)).trans ev42281)) (by omega) (by omega) (by omega))) (by decide) (by decide) (fun w42290 h42290 q42290 => ?_)
        obtain ⟨v42291, rfl, lv42291, uv42291, g42290, kk42290⟩ := q42290
        have k42290 := k42288.tr kk42290 (by decide)
        show jEv _ _ _ _ _ _ _ (_, [(2, 42), (0, a1), (1, x2), (9, 0), (0, x4), (0, v42285)], [(0, v42291), (1, v42289), (1, v42287), (1, x2)], _, _, _)
        refine ev_i2l ?_
        refine g_ldivM (by omega) (by omega) (by omega) (fun v42292 ev42292 lv42292 uv42292 => ?_)
        refine g_lmulB (a := 99) (b := 26198073) (a' := 1) (b' := 0) (by omega) (by omega) (by omega) (by omega) (by decide) (lo := 0) (hi := 2593609227) (by decide) (by decide) (fun v42293 ev42293 lv42293 uv42293 => ?_)
        refine g_lmulG (fun v42294 ev42294 lv42294 uv42294 => ?_)
        refine ev_lstore_n (L' := [(2, 42), (0, a1), (1, v42294), (9, 0), (0, x4), (0, v42285)]) (Nat.le_of_ble_eq_true rfl) rfl ?_
        refine ev_iinc (w := (x4 + 1)) (L' := [(2, 42), (0, a1), (1, v42294), (9, 0), (0, (x4 + 1)), (0, v42285)]) rfl (by unfold w32; omega) rfl ?_
        refine ev_goto f255_5 ?_
        exact ih _ _ _ _ g42290 k42290 (by omega) (by omega) (by omega) (by omega) (by omega) (by omega) (by omega)
      · refine ev_iconst ?_
        refine ev_goto f255_44 ?_
        refine ev_istore (L' := [(2, 42), (0, a1), (1, x2), (9, 0), (0, x4), (0, 0)]) (Nat.le_of_ble_eq_true rfl) rfl ?_
        refine ev_lload_n rfl ?_
        refine ev_aload_n rfl ?_
        refine g_getp (r := 42) (c := 45) g1 ad42 (by decide) (by decide) rf42_4 ft12_4 ?_
        refine ev_bipush ?_
        refine ev_iload rfl ?_
        refine ev_imul (r := (9 * x4)) (by unfold w32; omega) ?_
        refine ev_iconst ?_
        refine ev_iload rfl ?_
        refine ev_imul (r := 0) (by decide) ?_
        refine ev_iadd (r := (9 * x4)) (by unfold w32; omega) ?_
        refine ev_aload_n rfl ?_
        refine g_getp (r := 42) (c := 46) g1 ad42 (by decide) (by decide) rf42_6 ft12_6 ?_
        refine ev_iconst ?_
        refine ev_iload_n rfl ?_
        refine ev_imul (r := (4 * a1)) (by unfold w32; omega) ?_
        refine ev_iload rfl ?_
        refine ev_iadd (r := (4 * a1 + x4)) (by unfold w32; omega) ?_
        refine g_iald g1 ad46 rt46 (by omega) (by omega) (fun v42295 ev42295 lv42295 uv42295 => ?_)
        refine ev_iadd (r := (v42295 + 9 * x4)) (by unfold w32; omega) ?_
        refine g_iald g1 ad45 rt45 (by omega) (by omega) (fun v42296 ev42296 lv42296 uv42296 => ?_)
        have xv42296 := (g1.ex.2.2.1 ((v42295 + 9 * x4) : Int).toNat (by rw [(ev42281)]; omega))
        rw [ev42296] at xv42296
        refine ev_i2l ?_
        refine ev_aload_n rfl ?_
        refine ev_iload rfl ?_
        refine ev_call (jcall_v (A := [(0, x4)]) (S' := [(1, v42296), (1, x2)]) (r := 42) rfl (g1.lt ad42) (g1.tg ad42) (Nat.le_of_ble_eq_true rfl)) (jOk_le (by decide) (s252 g1 (by omega) (by omega) (ev42281) (by omega) (by omega) (by omega))) (by decide) (by decide) (fun w42297 h42297 q42297 => ?_)
        obtain ⟨v42298, rfl, lv42298, uv42298, g42297, kk42297⟩ := q42297
        have k42297 := k1.tr kk42297 (by decide)
        show jEv _ _ _ _ _ _ _ (_, [(2, 42), (0, a1), (1, x2), (9, 0), (0, x4), (0, 0)], [(1, v42298), (1, v42296), (1, x2)], _, _, _)
        refine ev_aload_n rfl ?_
        refine ev_iload rfl ?_
        refine ev_iload rfl ?_
        refine ev_call (jcall_v (A := [(0, 0), (0, x4)]) (S' := [(1, v42298), (1, v42296), (1, x2)]) (r := 42) rfl (g42297.lt ad42) (g42297.tg ad42) (Nat.le_of_ble_eq_true rfl)) (jOk_le (by decide) (s251 g42297 (by omega) (by omega) (by omega) (by omega) (((kk42297.v (by decide)).trans ev42281)) (by omega) (by omega) (by omega))) (by decide) (by decide) (fun w42299 h42299 q42299 => ?_)
        obtain ⟨v42300, rfl, lv42300, uv42300, g42299, kk42299⟩ := q42299
        have k42299 := k42297.tr kk42299 (by decide)
        show jEv _ _ _ _ _ _ _ (_, [(2, 42), (0, a1), (1, x2), (9, 0), (0, x4), (0, 0)], [(0, v42300), (1, v42298), (1, v42296), (1, x2)], _, _, _)
        refine ev_i2l ?_
        refine g_ldivM (by omega) (by omega) (by omega) (fun v42301 ev42301 lv42301 uv42301 => ?_)
        refine g_lmulB (a := 99) (b := 26198073) (a' := 1) (b' := 0) (by omega) (by omega) (by omega) (by omega) (by decide) (lo := 0) (hi := 2593609227) (by decide) (by decide) (fun v42302 ev42302 lv42302 uv42302 => ?_)
        refine g_lmulG (fun v42303 ev42303 lv42303 uv42303 => ?_)
        refine ev_lstore_n (L' := [(2, 42), (0, a1), (1, v42303), (9, 0), (0, x4), (0, 0)]) (Nat.le_of_ble_eq_true rfl) rfl ?_
        refine ev_iinc (w := (x4 + 1)) (L' := [(2, 42), (0, a1), (1, v42303), (9, 0), (0, (x4 + 1)), (0, 0)]) rfl (by unfold w32; omega) rfl ?_
        refine ev_goto f255_5 ?_
        exact ih _ _ _ _ g42299 k42299 (by omega) (by omega) (by omega) (by omega) (by omega) (by omega) (by omega)
set_option maxHeartbeats 4000000 in
theorem s255 {G : GH} {h : JH} (g : Gd G h) {a1 : Int} (la1 : 0 ≤ a1) (ua1 : a1 ≤ 80) : jOk 3 0 0 255 [(2, 42), (0, a1)] h (PI G [] h 1 (-9223372036854775808) 9223372036854775807) := by
  refine ⟨by decide, by rw [ml255]; exact Nat.le_of_ble_eq_true rfl, ?_⟩
  rw [ml255, pp255]
  show jEv _ none _ c255_0 0 0 _ (c255_0, [(2, 42), (0, a1), (9, 0), (9, 0), (9, 0), (9, 0)], [], h, 0, 0)
  have k0 := Kp.rf [] h
  refine ev_lconst ?_
  refine ev_lstore_n (L' := [(2, 42), (0, a1), (1, 1), (9, 0), (9, 0), (9, 0)]) (Nat.le_of_ble_eq_true rfl) rfl ?_
  refine ev_iconst ?_
  refine ev_istore (L' := [(2, 42), (0, a1), (1, 1), (9, 0), (0, 0), (9, 0)]) (Nat.le_of_ble_eq_true rfl) rfl ?_
  exact (s255_l la1 ua1 10) _ _ _ _ g k0 (by omega) (by omega) (by omega) (by omega) (by omega) (by omega) (by omega)
