/-! 367 act -/
set_option maxHeartbeats 4000000 in
theorem s367 {G : GH} {h : JH} (g : Gd G h) {a1 : Int} (la1 : (-2147483648) ≤ a1) (ua1 : a1 ≤ 2147483647) {a2 : Int} (la2 : (-2147483648) ≤ a2) (ua2 : a2 ≤ 2147483647) {a3 : Int} (la3 : (-2147483648) ≤ a3) (ua3 : a3 ≤ 2147483647) : jOk 10 0 0 367 [(2, 42), (0, a1), (0, a2), (0, a3)] h (PI G [(42, 61), (78, 0)] h 0 (-2147483648) 2147483647) := by
  refine ⟨by decide, by rw [ml367]; exact Nat.le_of_ble_eq_true rfl, ?_⟩
  rw [ml367, pp367]
  show jEv _ none _ c367_0 0 0 _ (c367_0, [(2, 42), (0, a1), (0, a2), (0, a3)], [], h, 0, 0)
  have k0 := Kp.rf [(42, 61), (78, 0)] h
  refine ev_aload_n rfl ?_
  refine ev_iconst ?_
  refine g_putf (r := 42) g ad42 (by decide) ft12_60 (by decide) (fun e => absurd e nz12_60) rf42_60 (by decide) (by omega) (by omega) (fun h51478 e51478 g51478 => ?_)
  have k51478 := k0.wr e51478 rfl
  refine ev_aload_n rfl ?_
  refine ev_iload_n rfl ?_
  refine ev_in (d := 8) (a := 0) (b := 0) (cd' := c284_0) (m := 2) (L0 := [(2, 42), (0, a1)]) (jcall_v (A := [(0, a1)]) (S' := []) (r := 42) rfl (g51478.lt ad42) (g51478.tg ad42) (Nat.le_of_ble_eq_true rfl)) (by decide) ml284 pp284 (Nat.le_of_ble_eq_true rfl) rfl (by decide) (by decide) ?_
  refine ev_iload_n rfl ?_
  refine ev_iconst ?_
  refine ev_aload_n rfl ?_
  obtain ⟨v51479, ev51479, lv51479, uv51479⟩ := g51478.rd ad42 (show 28 < 66 by decide) rf42_28
  refine g_getv (r := 42) (v := v51479) g51478 ad42 (by decide) ft12_28 ev51479 ?_
  refine ev_iconst ?_
  refine ev_isub (r := (v51479 - 1)) (by unfold w32; omega) ?_
  refine ev_in (d := 7) (a := 0) (b := 0) (cd' := c242_0) (m := 3) (L0 := [(0, a1), (0, 0), (0, (v51479 - 1))]) (jcall_s (A := [(0, (v51479 - 1)), (0, 0), (0, a1)]) (S' := []) (by decide) rfl (Nat.le_of_ble_eq_true rfl)) (by decide) ml242 pp242 (Nat.le_of_ble_eq_true rfl) rfl (by decide) (by decide) ?_
  refine ev_iload_n rfl ?_
  refine ev_iload_n rfl ?_
  refine ev_icmplt f242_14 (fun c51480 => ?_) (fun c51480 => ?_)
  · refine ev_iconst ?_
    refine ev_ret rfl (by decide) (by decide) ?_
    show jEv _ _ _ _ _ _ _ (_, [(2, 42), (0, a1)], [(0, 0)], _, _, _)
    refine ev_ret rfl (by decide) (by decide) ?_
    show jEv _ _ _ _ _ _ _ (_, [(2, 42), (0, a1), (0, a2), (0, a3)], [(0, 0)], _, _, _)
    refine ev_ifeq f367_22 (fun c51481 => ?_) (fun c51481 => absurd c51481 (by omega))
    refine ev_iconst ?_
    exact ev_ret rfl (by decide) (by decide) ⟨_, rfl, by omega, by omega, g51478, k51478⟩
  · refine ev_iload_n rfl ?_
    refine ev_iload_n rfl ?_
    refine ev_icmpgt f242_14 (fun c51482 => ?_) (fun c51482 => ?_)
    · refine ev_iconst ?_
      refine ev_ret rfl (by decide) (by decide) ?_
      show jEv _ _ _ _ _ _ _ (_, [(2, 42), (0, a1)], [(0, 0)], _, _, _)
      refine ev_ret rfl (by decide) (by decide) ?_
      show jEv _ _ _ _ _ _ _ (_, [(2, 42), (0, a1), (0, a2), (0, a3)], [(0, 0)], _, _, _)
      refine ev_ifeq f367_22 (fun c51483 => ?_) (fun c51483 => absurd c51483 (by omega))
      refine ev_iconst ?_
      exact ev_ret rfl (by decide) (by decide) ⟨_, rfl, by omega, by omega, g51478, k51478⟩
    · refine ev_iconst ?_
      refine ev_goto f242_15 ?_
      refine ev_ret rfl (by decide) (by decide) ?_
      show jEv _ _ _ _ _ _ _ (_, [(2, 42), (0, a1)], [(0, 1)], _, _, _)
      refine ev_ret rfl (by decide) (by decide) ?_
      show jEv _ _ _ _ _ _ _ (_, [(2, 42), (0, a1), (0, a2), (0, a3)], [(0, 1)], _, _, _)
      refine ev_ifeq f367_22 (fun c51484 => absurd c51484 (by omega)) (fun c51484 => ?_)
      refine ev_iload_n rfl ?_
      refine ev_iconst ?_
      refine ev_iconst ?_
      refine ev_in (d := 8) (a := 0) (b := 0) (cd' := c242_0) (m := 3) (L0 := [(0, a2), (0, 0), (0, 3)]) (jcall_s (A := [(0, 3), (0, 0), (0, a2)]) (S' := []) (by decide) rfl (Nat.le_of_ble_eq_true rfl)) (by decide) ml242 pp242 (Nat.le_of_ble_eq_true rfl) rfl (by decide) (by decide) ?_
      refine ev_iload_n rfl ?_
      refine ev_iload_n rfl ?_
      refine ev_icmplt f242_14 (fun c51485 => ?_) (fun c51485 => ?_)
      · refine ev_iconst ?_
        refine ev_ret rfl (by decide) (by decide) ?_
        show jEv _ _ _ _ _ _ _ (_, [(2, 42), (0, a1), (0, a2), (0, a3)], [(0, 0)], _, _, _)
        refine ev_ifne f367_24 (fun c51486 => absurd c51486 (by omega)) (fun c51486 => ?_)
        refine ev_iconst ?_
        exact ev_ret rfl (by decide) (by decide) ⟨_, rfl, by omega, by omega, g51478, k51478⟩
      · refine ev_iload_n rfl ?_
        refine ev_iload_n rfl ?_
        refine ev_icmpgt f242_14 (fun c51487 => ?_) (fun c51487 => ?_)
        · refine ev_iconst ?_
          refine ev_ret rfl (by decide) (by decide) ?_
          show jEv _ _ _ _ _ _ _ (_, [(2, 42), (0, a1), (0, a2), (0, a3)], [(0, 0)], _, _, _)
          refine ev_ifne f367_24 (fun c51488 => absurd c51488 (by omega)) (fun c51488 => ?_)
          refine ev_iconst ?_
          exact ev_ret rfl (by decide) (by decide) ⟨_, rfl, by omega, by omega, g51478, k51478⟩
        · refine ev_iconst ?_
          refine ev_goto f242_15 ?_
          refine ev_ret rfl (by decide) (by decide) ?_
          show jEv _ _ _ _ _ _ _ (_, [(2, 42), (0, a1), (0, a2), (0, a3)], [(0, 1)], _, _, _)
          refine ev_ifne f367_24 (fun c51489 => ?_) (fun c51489 => absurd c51489 (by omega))
          refine ev_iload_n rfl ?_
          refine ev_ifne f367_37 (fun c51490 => ?_) (fun c51490 => ?_)
          · refine ev_iload_n rfl ?_
            refine ev_iconst ?_
            refine ev_icmpne f367_51 (fun c51491 => ?_) (fun c51491 => ?_)
            · refine ev_iload_n rfl ?_
              refine ev_iconst ?_
              refine ev_icmpne f367_65 (fun c51492 => ?_) (fun c51492 => ?_)
              · refine ev_aload_n rfl ?_
                refine ev_iload_n rfl ?_
                refine ev_iload_n rfl ?_
                refine ev_call (jcall_v (A := [(0, a3), (0, a1)]) (S' := []) (r := 42) rfl (g51478.lt ad42) (g51478.tg ad42) (Nat.le_of_ble_eq_true rfl)) (jOk_le (by decide) (s366 g51478 (by omega) (by omega) (by omega) (by omega) ((jw_eq e51478)) (by omega) (by omega))) (by decide) (by decide) (fun w51493 h51493 q51493 => ?_)
                obtain ⟨q51493, fp51493⟩ := q51493
                obtain ⟨v51494, rfl, lv51494, uv51494, g51493, kk51493⟩ := q51493
                have k51493 := k51478.tr kk51493 (by decide)
                obtain ⟨v51495, ev51495, lv51495, uv51495⟩ := g51493.rd ad42 (show 60 < 66 by decide) rf42_60
                rw [ev51495] at fp51493
                show jEv _ _ _ _ _ _ _ (_, [(2, 42), (0, a1), (0, a2), (0, a3)], [(0, v51494)], _, _, _)
                exact ev_ret rfl (by decide) (by decide) ⟨_, rfl, by omega, by omega, g51493, k51493⟩
              · refine ev_aload_n rfl ?_
                refine ev_iload_n rfl ?_
                refine ev_iload_n rfl ?_
                refine ev_call (jcall_v (A := [(0, a3), (0, a1)]) (S' := []) (r := 42) rfl (g51478.lt ad42) (g51478.tg ad42) (Nat.le_of_ble_eq_true rfl)) (jOk_le (by decide) (s364 g51478 (by omega) (by omega) (by omega) (by omega) ((jw_eq e51478)) (by omega) (by omega))) (by decide) (by decide) (fun w51496 h51496 q51496 => ?_)
                obtain ⟨q51496, fp51496⟩ := q51496
                obtain ⟨v51497, rfl, lv51497, uv51497, g51496, kk51496⟩ := q51496
                have k51496 := k51478.tr kk51496 (by decide)
                obtain ⟨v51498, ev51498, lv51498, uv51498⟩ := g51496.rd ad42 (show 60 < 66 by decide) rf42_60
                rw [ev51498] at fp51496
                show jEv _ _ _ _ _ _ _ (_, [(2, 42), (0, a1), (0, a2), (0, a3)], [(0, v51497)], _, _, _)
                refine ev_goto f367_71 ?_
                exact ev_ret rfl (by decide) (by decide) ⟨_, rfl, by omega, by omega, g51496, k51496⟩
            · refine ev_aload_n rfl ?_
              refine ev_iload_n rfl ?_
              refine ev_iload_n rfl ?_
              refine ev_call (jcall_v (A := [(0, a3), (0, a1)]) (S' := []) (r := 42) rfl (g51478.lt ad42) (g51478.tg ad42) (Nat.le_of_ble_eq_true rfl)) (jOk_le (by decide) (s362 g51478 (by omega) (by omega) (by omega) (by omega) ((jw_eq e51478)) (by omega) (by omega))) (by decide) (by decide) (fun w51499 h51499 q51499 => ?_)
              obtain ⟨q51499, fp51499⟩ := q51499
              obtain ⟨v51500, rfl, lv51500, uv51500, g51499, kk51499⟩ := q51499
              have k51499 := k51478.tr kk51499 (by decide)
              obtain ⟨v51501, ev51501, lv51501, uv51501⟩ := g51499.rd ad42 (show 60 < 66 by decide) rf42_60
              rw [ev51501] at fp51499
              show jEv _ _ _ _ _ _ _ (_, [(2, 42), (0, a1), (0, a2), (0, a3)], [(0, v51500)], _, _, _)
              refine ev_goto f367_71 ?_
              exact ev_ret rfl (by decide) (by decide) ⟨_, rfl, by omega, by omega, g51499, k51499⟩
          · refine ev_aload_n rfl ?_
            refine ev_iload_n rfl ?_
            refine ev_iload_n rfl ?_
            refine ev_call (jcall_v (A := [(0, a3), (0, a1)]) (S' := []) (r := 42) rfl (g51478.lt ad42) (g51478.tg ad42) (Nat.le_of_ble_eq_true rfl)) (jOk_le (by decide) (s359 g51478 (by omega) (by omega) (by omega) (by omega) ((jw_eq e51478)) (by omega) (by omega))) (by decide) (by decide) (fun w51502 h51502 q51502 => ?_)
            obtain ⟨q51502, fp51502⟩ := q51502
            obtain ⟨v51503, rfl, lv51503, uv51503, g51502, kk51502⟩ := q51502
            have k51502 := k51478.tr kk51502 (by decide)
            obtain ⟨v51504, ev51504, lv51504, uv51504⟩ := g51502.rd ad42 (show 60 < 66 by decide) rf42_60
            rw [ev51504] at fp51502
            show jEv _ _ _ _ _ _ _ (_, [(2, 42), (0, a1), (0, a2), (0, a3)], [(0, v51503)], _, _, _)
            refine ev_goto f367_71 ?_
            exact ev_ret rfl (by decide) (by decide) ⟨_, rfl, by omega, by omega, g51502, k51502⟩
/-! 368 trace -/
set_option maxHeartbeats 4000000 in
theorem s368 {G : GH} {h : JH} (g : Gd G h) {a1 : Int} (la1 : (-2147483648) ≤ a1) (ua1 : a1 ≤ 2147483647) : jOk 1 0 0 368 [(2, 42), (0, a1)] h (PI G [] h 0 (-2147483648) 2147483647) := by
  refine ⟨by decide, by rw [ml368]; exact Nat.le_of_ble_eq_true rfl, ?_⟩
  rw [ml368, pp368]
  show jEv _ none _ c368_0 0 0 _ (c368_0, [(2, 42), (0, a1)], [], h, 0, 0)
  have k0 := Kp.rf [] h
  refine ev_iload_n rfl ?_
  refine ev_iflt f368_27 (fun c51515 => ?_) (fun c51515 => ?_)
  · refine ev_iconst ?_
    exact ev_ret rfl (by decide) (by decide) ⟨_, rfl, by omega, by omega, g, k0⟩
  · refine ev_iload_n rfl ?_
    refine ev_aload_n rfl ?_
    obtain ⟨v51516, ev51516, lv51516, uv51516⟩ := g.rd ad42 (show 60 < 66 by decide) rf42_60
    refine g_getv (r := 42) (v := v51516) g ad42 (by decide) ft12_60 ev51516 ?_
    refine ev_icmpge f368_27 (fun c51517 => ?_) (fun c51517 => ?_)
    · refine ev_iconst ?_
      exact ev_ret rfl (by decide) (by decide) ⟨_, rfl, by omega, by omega, g, k0⟩
    · refine ev_iload_n rfl ?_
      refine ev_bipush ?_
      refine ev_icmpge f368_27 (fun c51518 => ?_) (fun c51518 => ?_)
      · refine ev_iconst ?_
        exact ev_ret rfl (by decide) (by decide) ⟨_, rfl, by omega, by omega, g, k0⟩
      · refine ev_aload_n rfl ?_
        refine g_getp (r := 42) (c := 78) g ad42 (by decide) (by decide) rf42_61 ft12_61 ?_
        refine ev_iload_n rfl ?_
        refine g_iald g ad78 rt78 (by omega) (by omega) (fun v51519 ev51519 lv51519 uv51519 => ?_)
        refine ev_goto f368_28 ?_
        exact ev_ret rfl (by decide) (by decide) ⟨_, rfl, by omega, by omega, g, k0⟩
/-! 369 count -/
set_option maxHeartbeats 4000000 in
theorem s369 {G : GH} {h : JH} (g : Gd G h) {a1 : Int} (la1 : (-2147483648) ≤ a1) (ua1 : a1 ≤ 2147483647) : jOk 1 0 0 369 [(2, 42), (0, a1)] h (PI G [] h 0 (-1) 1000) := by
  refine ⟨by decide, by rw [ml369]; exact Nat.le_of_ble_eq_true rfl, ?_⟩
  rw [ml369, pp369]
  show jEv _ none _ c369_0 0 0 _ (c369_0, [(2, 42), (0, a1)], [], h, 0, 0)
  have k0 := Kp.rf [] h
  refine ev_iload_n rfl ?_
  rcases (show a1 = 0 ∨ a1 = 1 ∨ a1 = 2 ∨ a1 = 3 ∨ a1 = 4 ∨ a1 = 5 ∨ a1 < 0 ∨ 5 < a1 by omega) with c51534 | c51534 | c51534 | c51534 | c51534 | c51534 | c51534 | c51534
  · refine ev_sw (t := 40) (by rw [c51534]; decide) f369_40 ?_
    refine ev_aload_n rfl ?_
    obtain ⟨v51535, ev51535, lv51535, uv51535⟩ := g.rd ad42 (show 1 < 66 by decide) rf42_1
    refine g_getv (r := 42) (v := v51535) g ad42 (by decide) ft12_1 ev51535 ?_
    exact ev_ret rfl (by decide) (by decide) ⟨_, rfl, by omega, by omega, g, k0⟩
  · refine ev_sw (t := 45) (by rw [c51534]; decide) f369_45 ?_
    refine ev_aload_n rfl ?_
    obtain ⟨v51536, ev51536, lv51536, uv51536⟩ := g.rd ad42 (show 9 < 66 by decide) rf42_9
    refine g_getv (r := 42) (v := v51536) g ad42 (by decide) ft12_9 ev51536 ?_
    exact ev_ret rfl (by decide) (by decide) ⟨_, rfl, by omega, by omega, g, k0⟩
  · refine ev_sw (t := 50) (by rw [c51534]; decide) f369_50 ?_
    refine ev_aload_n rfl ?_
    obtain ⟨v51537, ev51537, lv51537, uv51537⟩ := g.rd ad42 (show 17 < 66 by decide) rf42_17
    refine g_getv (r := 42) (v := v51537) g ad42 (by decide) ft12_17 ev51537 ?_
    exact ev_ret rfl (by decide) (by decide) ⟨_, rfl, by omega, by omega, g, k0⟩
  · refine ev_sw (t := 55) (by rw [c51534]; decide) f369_55 ?_
    refine ev_aload_n rfl ?_
    obtain ⟨v51538, ev51538, lv51538, uv51538⟩ := g.rd ad42 (show 28 < 66 by decide) rf42_28
    refine g_getv (r := 42) (v := v51538) g ad42 (by decide) ft12_28 ev51538 ?_
    exact ev_ret rfl (by decide) (by decide) ⟨_, rfl, by omega, by omega, g, k0⟩
  · refine ev_sw (t := 60) (by rw [c51534]; decide) f369_60 ?_
    refine ev_aload_n rfl ?_
    obtain ⟨v51539, ev51539, lv51539, uv51539⟩ := g.rd ad42 (show 22 < 66 by decide) rf42_22
    refine g_getv (r := 42) (v := v51539) g ad42 (by decide) ft12_22 ev51539 ?_
    exact ev_ret rfl (by decide) (by decide) ⟨_, rfl, by omega, by omega, g, k0⟩
  · refine ev_sw (t := 65) (by rw [c51534]; decide) f369_65 ?_
    refine ev_aload_n rfl ?_
    obtain ⟨v51540, ev51540, lv51540, uv51540⟩ := g.rd ad42 (show 60 < 66 by decide) rf42_60
    refine g_getv (r := 42) (v := v51540) g ad42 (by decide) ft12_60 ev51540 ?_
    exact ev_ret rfl (by decide) (by decide) ⟨_, rfl, by omega, by omega, g, k0⟩
  · refine ev_sw (t := 70) (by rw [if_pos (show _ ∨ _ by omega)]; rfl) f369_70 ?_
    refine ev_iconst ?_
    exact ev_ret rfl (by decide) (by decide) ⟨_, rfl, by omega, by omega, g, k0⟩
  · refine ev_sw (t := 70) (by rw [if_pos (show _ ∨ _ by omega)]; rfl) f369_70 ?_
    refine ev_iconst ?_
    exact ev_ret rfl (by decide) (by decide) ⟨_, rfl, by omega, by omega, g, k0⟩
/-! 371 keep -/
set_option maxHeartbeats 4000000 in
theorem s371 {G : GH} {h : JH} (g : Gd G h) {a1 : Int} (la1 : (-2147483648) ≤ a1) (ua1 : a1 ≤ 2147483647) {a2 : Int} (la2 : (-2147483648) ≤ a2) (ua2 : a2 ≤ 2147483647) : jOk 3 0 0 371 [(2, 42), (0, a1), (0, a2)] h (PI G [(79, 0)] h 0 (-1) 1) := by
  refine ⟨by decide, by rw [ml371]; exact Nat.le_of_ble_eq_true rfl, ?_⟩
  rw [ml371, pp371]
  show jEv _ none _ c371_0 0 0 _ (c371_0, [(2, 42), (0, a1), (0, a2)], [], h, 0, 0)
  have k0 := Kp.rf [(79, 0)] h
  refine ev_iload_n rfl ?_
  refine ev_in (d := 1) (a := 0) (b := 0) (cd' := c370_0) (m := 1) (L0 := [(0, a1)]) (jcall_s (A := [(0, a1)]) (S' := []) (by decide) rfl (Nat.le_of_ble_eq_true rfl)) (by decide) ml370 pp370 (Nat.le_of_ble_eq_true rfl) rfl (by decide) (by decide) ?_
  refine ev_iload_n rfl ?_
  refine ev_iconst ?_
  refine ev_iconst ?_
  refine ev_in (d := 0) (a := 0) (b := 0) (cd' := c242_0) (m := 3) (L0 := [(0, a1), (0, 0), (0, 5)]) (jcall_s (A := [(0, 5), (0, 0), (0, a1)]) (S' := []) (by decide) rfl (Nat.le_of_ble_eq_true rfl)) (by decide) ml242 pp242 (Nat.le_of_ble_eq_true rfl) rfl (by decide) (by decide) ?_
  refine ev_iload_n rfl ?_
  refine ev_iload_n rfl ?_
  refine ev_icmplt f242_14 (fun c51569 => ?_) (fun c51569 => ?_)
  · refine ev_iconst ?_
    refine ev_ret rfl (by decide) (by decide) ?_
    show jEv _ _ _ _ _ _ _ (_, [(0, a1)], [(0, 0)], _, _, _)
    refine ev_ret rfl (by decide) (by decide) ?_
    show jEv _ _ _ _ _ _ _ (_, [(2, 42), (0, a1), (0, a2)], [(0, 0)], _, _, _)
    refine ev_ifeq f371_20 (fun c51570 => ?_) (fun c51570 => absurd c51570 (by omega))
    refine ev_iconst ?_
    exact ev_ret rfl (by decide) (by decide) ⟨_, rfl, by omega, by omega, g, k0⟩
  · refine ev_iload_n rfl ?_
    refine ev_iload_n rfl ?_
    refine ev_icmpgt f242_14 (fun c51571 => ?_) (fun c51571 => ?_)
    · refine ev_iconst ?_
      refine ev_ret rfl (by decide) (by decide) ?_
      show jEv _ _ _ _ _ _ _ (_, [(0, a1)], [(0, 0)], _, _, _)
      refine ev_ret rfl (by decide) (by decide) ?_
      show jEv _ _ _ _ _ _ _ (_, [(2, 42), (0, a1), (0, a2)], [(0, 0)], _, _, _)
      refine ev_ifeq f371_20 (fun c51572 => ?_) (fun c51572 => absurd c51572 (by omega))
      refine ev_iconst ?_
      exact ev_ret rfl (by decide) (by decide) ⟨_, rfl, by omega, by omega, g, k0⟩
    · refine ev_iconst ?_
      refine ev_goto f242_15 ?_
      refine ev_ret rfl (by decide) (by decide) ?_
      show jEv _ _ _ _ _ _ _ (_, [(0, a1)], [(0, 1)], _, _, _)
      refine ev_ret rfl (by decide) (by decide) ?_
      show jEv _ _ _ _ _ _ _ (_, [(2, 42), (0, a1), (0, a2)], [(0, 1)], _, _, _)
      refine ev_ifeq f371_20 (fun c51573 => absurd c51573 (by omega)) (fun c51573 => ?_)
      refine ev_iload_n rfl ?_
      refine ev_iconst ?_
      refine ev_icmpeq f371_22 (fun c51574 => ?_) (fun c51574 => ?_)
      · refine ev_aload_n rfl ?_
        refine g_getp (r := 42) (c := 79) g ad42 (by decide) (by decide) rf42_62 ft12_62 ?_
        refine ev_iload_n rfl ?_
        refine ev_iload_n rfl ?_
        refine g_iast g ad79 rt79 (fun _ => rfl) (by omega) (by omega) (by omega) (by omega) (fun h51575 e51575 g51575 => ?_)
        have k51575 := k0.wr e51575 rfl
        refine ev_iconst ?_
        exact ev_ret rfl (by decide) (by decide) ⟨_, rfl, by omega, by omega, g51575, k51575⟩
      · refine ev_aload_n rfl ?_
        refine ev_iload_n rfl ?_
        refine ev_in (d := 1) (a := 0) (b := 0) (cd' := c284_0) (m := 2) (L0 := [(2, 42), (0, a2)]) (jcall_v (A := [(0, a2)]) (S' := []) (r := 42) rfl (g.lt ad42) (g.tg ad42) (Nat.le_of_ble_eq_true rfl)) (by decide) ml284 pp284 (Nat.le_of_ble_eq_true rfl) rfl (by decide) (by decide) ?_
        refine ev_iload_n rfl ?_
        refine ev_iconst ?_
        refine ev_aload_n rfl ?_
        obtain ⟨v51576, ev51576, lv51576, uv51576⟩ := g.rd ad42 (show 28 < 66 by decide) rf42_28
        refine g_getv (r := 42) (v := v51576) g ad42 (by decide) ft12_28 ev51576 ?_
        refine ev_iconst ?_
        refine ev_isub (r := (v51576 - 1)) (by unfold w32; omega) ?_
        refine ev_in (d := 0) (a := 0) (b := 0) (cd' := c242_0) (m := 3) (L0 := [(0, a2), (0, 0), (0, (v51576 - 1))]) (jcall_s (A := [(0, (v51576 - 1)), (0, 0), (0, a2)]) (S' := []) (by decide) rfl (Nat.le_of_ble_eq_true rfl)) (by decide) ml242 pp242 (Nat.le_of_ble_eq_true rfl) rfl (by decide) (by decide) ?_
        refine ev_iload_n rfl ?_
        refine ev_iload_n rfl ?_
        refine ev_icmplt f242_14 (fun c51577 => ?_) (fun c51577 => ?_)
        · refine ev_iconst ?_
          refine ev_ret rfl (by decide) (by decide) ?_
          show jEv _ _ _ _ _ _ _ (_, [(2, 42), (0, a2)], [(0, 0)], _, _, _)
          refine ev_ret rfl (by decide) (by decide) ?_
          show jEv _ _ _ _ _ _ _ (_, [(2, 42), (0, a1), (0, a2)], [(0, 0)], _, _, _)
          refine ev_ifne f371_22 (fun c51578 => absurd c51578 (by omega)) (fun c51578 => ?_)
          refine ev_iconst ?_
          exact ev_ret rfl (by decide) (by decide) ⟨_, rfl, by omega, by omega, g, k0⟩
        · refine ev_iload_n rfl ?_
          refine ev_iload_n rfl ?_
          refine ev_icmpgt f242_14 (fun c51579 => ?_) (fun c51579 => ?_)
          · refine ev_iconst ?_
            refine ev_ret rfl (by decide) (by decide) ?_
            show jEv _ _ _ _ _ _ _ (_, [(2, 42), (0, a2)], [(0, 0)], _, _, _)
            refine ev_ret rfl (by decide) (by decide) ?_
            show jEv _ _ _ _ _ _ _ (_, [(2, 42), (0, a1), (0, a2)], [(0, 0)], _, _, _)
            refine ev_ifne f371_22 (fun c51580 => absurd c51580 (by omega)) (fun c51580 => ?_)
            refine ev_iconst ?_
            exact ev_ret rfl (by decide) (by decide) ⟨_, rfl, by omega, by omega, g, k0⟩
          · refine ev_iconst ?_
            refine ev_goto f242_15 ?_
            refine ev_ret rfl (by decide) (by decide) ?_
            show jEv _ _ _ _ _ _ _ (_, [(2, 42), (0, a2)], [(0, 1)], _, _, _)
            refine ev_ret rfl (by decide) (by decide) ?_
            show jEv _ _ _ _ _ _ _ (_, [(2, 42), (0, a1), (0, a2)], [(0, 1)], _, _, _)
            refine ev_ifne f371_22 (fun c51581 => ?_) (fun c51581 => absurd c51581 (by omega))
            refine ev_aload_n rfl ?_
            refine g_getp (r := 42) (c := 79) g ad42 (by decide) (by decide) rf42_62 ft12_62 ?_
            refine ev_iload_n rfl ?_
            refine ev_iload_n rfl ?_
            refine g_iast g ad79 rt79 (fun _ => rfl) (by omega) (by omega) (by omega) (by omega) (fun h51582 e51582 g51582 => ?_)
            have k51582 := k0.wr e51582 rfl
            refine ev_iconst ?_
            exact ev_ret rfl (by decide) (by decide) ⟨_, rfl, by omega, by omega, g51582, k51582⟩
/-! 372 row -/
set_option maxHeartbeats 4000000 in
theorem s372_l {G : GH} {h : JH} {a1 : Int} (la1 : (-2147483648) ≤ a1) (ua1 : a1 ≤ 2147483647) {a2 : Int} (la2 : (-2147483648) ≤ a2) (ua2 : a2 ≤ 2147483647) {a3 : Int} (la3 : (-2147483648) ≤ a3) (ua3 : a3 ≤ 2147483647) : ∀ N : Nat, (∀ (h1 : JH) (x4 : Int), Gd G h1 → Kp [(79, 0), (80, 0), (81, 0)] h h1 → 0 ≤ a1 → a1 ≤ 5 → 0 ≤ a2 → a2 ≤ 4 → 0 ≤ a3 → a3 ≤ 60 → 0 ≤ x4 → x4 ≤ 360 → ((-x4) + 360) < N → jEv (jOk 2) none (fun _ => 0) c372_0 0 0 (PI G [(79, 0), (80, 0), (81, 0)] h 0 (-14) 1) (c372_54, [(2, 42), (0, a1), (0, a2), (0, a3), (0, x4)], [], h1, 0, 0)) := by
  intro N
  induction N with
  | zero => exact fun h1 x4 g1 k1 b0 b1 b2 b3 b4 b5 b6 b7 hm => absurd hm (by omega)
  | succ N ih =>
    show _
    intro h1 x4 g1 k1 b0 b1 b2 b3 b4 b5 b6 b7 hm
    refine ev_iload rfl ?_
    refine ev_bipush ?_
    refine ev_iload_n rfl ?_
    refine ev_imul (r := (60 * a1)) (by unfold w32; omega) ?_
    refine ev_bipush ?_
    refine ev_iadd (r := (60 * a1 + 60)) (by unfold w32; omega) ?_
    refine ev_icmpge f372_80 (fun c51629 => ?_) (fun c51629 => ?_)
    · refine ev_iconst ?_
      exact ev_ret rfl (by decide) (by decide) ⟨_, rfl, by omega, by omega, g1, k1⟩
    · refine ev_aload_n rfl ?_
      refine g_getp (r := 42) (c := 81) g1 ad42 (by decide) (by decide) rf42_64 ft12_64 ?_
      refine ev_iload rfl ?_
      refine ev_lconst ?_
      refine g_last g1 ad81 rt81 (fun _ => rfl) (by omega) (by omega) (by omega) (by omega) (fun h51630 e51630 g51630 => ?_)
      have k51630 := k1.wr e51630 rfl
      refine ev_iinc (w := (x4 + 1)) (L' := [(2, 42), (0, a1), (0, a2), (0, a3), (0, (x4 + 1))]) rfl (by unfold w32; omega) rfl ?_
      refine ev_goto f372_54 ?_
      exact ih _ _ g51630 k51630 (by omega) (by omega) (by omega) (by omega) (by omega) (by omega) (by omega) (by omega) (by omega)
set_option maxHeartbeats 4000000 in
theorem s372 {G : GH} {h : JH} (g : Gd G h) {a1 : Int} (la1 : (-2147483648) ≤ a1) (ua1 : a1 ≤ 2147483647) {a2 : Int} (la2 : (-2147483648) ≤ a2) (ua2 : a2 ≤ 2147483647) {a3 : Int} (la3 : (-2147483648) ≤ a3) (ua3 : a3 ≤ 2147483647) : jOk 3 0 0 372 [(2, 42), (0, a1), (0, a2), (0, a3)] h (PI G [(79, 0), (80, 0), (81, 0)] h 0 (-14) 1) := by
  refine ⟨by decide, by rw [ml372]; exact Nat.le_of_ble_eq_true rfl, ?_⟩
  rw [ml372, pp372]
  show jEv _ none _ c372_0 0 0 _ (c372_0, [(2, 42), (0, a1), (0, a2), (0, a3), (9, 0)], [], h, 0, 0)
  have k0 := Kp.rf [(79, 0), (80, 0), (81, 0)] h
  refine ev_iload_n rfl ?_
  refine ev_in (d := 1) (a := 0) (b := 0) (cd' := c370_0) (m := 1) (L0 := [(0, a1)]) (jcall_s (A := [(0, a1)]) (S' := []) (by decide) rfl (Nat.le_of_ble_eq_true rfl)) (by decide) ml370 pp370 (Nat.le_of_ble_eq_true rfl) rfl (by decide) (by decide) ?_
  refine ev_iload_n rfl ?_
  refine ev_iconst ?_
  refine ev_iconst ?_
  refine ev_in (d := 0) (a := 0) (b := 0) (cd' := c242_0) (m := 3) (L0 := [(0, a1), (0, 0), (0, 5)]) (jcall_s (A := [(0, 5), (0, 0), (0, a1)]) (S' := []) (by decide) rfl (Nat.le_of_ble_eq_true rfl)) (by decide) ml242 pp242 (Nat.le_of_ble_eq_true rfl) rfl (by decide) (by decide) ?_
  refine ev_iload_n rfl ?_
  refine ev_iload_n rfl ?_
  refine ev_icmplt f242_14 (fun c51631 => ?_) (fun c51631 => ?_)
  · refine ev_iconst ?_
    refine ev_ret rfl (by decide) (by decide) ?_
    show jEv _ _ _ _ _ _ _ (_, [(0, a1)], [(0, 0)], _, _, _)
    refine ev_ret rfl (by decide) (by decide) ?_
    show jEv _ _ _ _ _ _ _ (_, [(2, 42), (0, a1), (0, a2), (0, a3), (9, 0)], [(0, 0)], _, _, _)
    refine ev_ifeq f372_22 (fun c51632 => ?_) (fun c51632 => absurd c51632 (by omega))
    refine ev_iconst ?_
    exact ev_ret rfl (by decide) (by decide) ⟨_, rfl, by omega, by omega, g, k0⟩
  · refine ev_iload_n rfl ?_
    refine ev_iload_n rfl ?_
    refine ev_icmpgt f242_14 (fun c51633 => ?_) (fun c51633 => ?_)
    · refine ev_iconst ?_
      refine ev_ret rfl (by decide) (by decide) ?_
      show jEv _ _ _ _ _ _ _ (_, [(0, a1)], [(0, 0)], _, _, _)
      refine ev_ret rfl (by decide) (by decide) ?_
      show jEv _ _ _ _ _ _ _ (_, [(2, 42), (0, a1), (0, a2), (0, a3), (9, 0)], [(0, 0)], _, _, _)
      refine ev_ifeq f372_22 (fun c51634 => ?_) (fun c51634 => absurd c51634 (by omega))
      refine ev_iconst ?_
      exact ev_ret rfl (by decide) (by decide) ⟨_, rfl, by omega, by omega, g, k0⟩
    · refine ev_iconst ?_
      refine ev_goto f242_15 ?_
      refine ev_ret rfl (by decide) (by decide) ?_
      show jEv _ _ _ _ _ _ _ (_, [(0, a1)], [(0, 1)], _, _, _)
      refine ev_ret rfl (by decide) (by decide) ?_
      show jEv _ _ _ _ _ _ _ (_, [(2, 42), (0, a1), (0, a2), (0, a3), (9, 0)], [(0, 1)], _, _, _)
      refine ev_ifeq f372_22 (fun c51635 => absurd c51635 (by omega)) (fun c51635 => ?_)
      refine ev_iload_n rfl ?_
      refine ev_iconst ?_
      refine ev_iconst ?_
      refine ev_in (d := 1) (a := 0) (b := 0) (cd' := c242_0) (m := 3) (L0 := [(0, a2), (0, 0), (0, 4)]) (jcall_s (A := [(0, 4), (0, 0), (0, a2)]) (S' := []) (by decide) rfl (Nat.le_of_ble_eq_true rfl)) (by decide) ml242 pp242 (Nat.le_of_ble_eq_true rfl) rfl (by decide) (by decide) ?_
      refine ev_iload_n rfl ?_
      refine ev_iload_n rfl ?_
      refine ev_icmplt f242_14 (fun c51636 => ?_) (fun c51636 => ?_)
      · refine ev_iconst ?_
        refine ev_ret rfl (by decide) (by decide) ?_
        show jEv _ _ _ _ _ _ _ (_, [(2, 42), (0, a1), (0, a2), (0, a3), (9, 0)], [(0, 0)], _, _, _)
        refine ev_ifeq f372_22 (fun c51637 => ?_) (fun c51637 => absurd c51637 (by omega))
        refine ev_iconst ?_
        exact ev_ret rfl (by decide) (by decide) ⟨_, rfl, by omega, by omega, g, k0⟩
      · refine ev_iload_n rfl ?_
        refine ev_iload_n rfl ?_
        refine ev_icmpgt f242_14 (fun c51638 => ?_) (fun c51638 => ?_)
        · refine ev_iconst ?_
          refine ev_ret rfl (by decide) (by decide) ?_
          show jEv _ _ _ _ _ _ _ (_, [(2, 42), (0, a1), (0, a2), (0, a3), (9, 0)], [(0, 0)], _, _, _)
          refine ev_ifeq f372_22 (fun c51639 => ?_) (fun c51639 => absurd c51639 (by omega))
          refine ev_iconst ?_
          exact ev_ret rfl (by decide) (by decide) ⟨_, rfl, by omega, by omega, g, k0⟩
        · refine ev_iconst ?_
          refine ev_goto f242_15 ?_
          refine ev_ret rfl (by decide) (by decide) ?_
          show jEv _ _ _ _ _ _ _ (_, [(2, 42), (0, a1), (0, a2), (0, a3), (9, 0)], [(0, 1)], _, _, _)
          refine ev_ifeq f372_22 (fun c51640 => absurd c51640 (by omega)) (fun c51640 => ?_)
          refine ev_iload_n rfl ?_
          refine ev_bipush ?_
          refine ev_icmple f372_24 (fun c51641 => ?_) (fun c51641 => ?_)
          · refine ev_iload_n rfl ?_
            refine ev_ifge f372_31 (fun c51642 => ?_) (fun c51642 => ?_)
            · refine ev_aload_n rfl ?_
              refine g_getp (r := 42) (c := 79) g ad42 (by decide) (by decide) rf42_62 ft12_62 ?_
              refine ev_iload_n rfl ?_
              refine ev_bipush ?_
              refine ev_iload_n rfl ?_
              refine ev_isub (r := ((-a2) - 2)) (by unfold w32; omega) ?_
              refine g_iast g ad79 rt79 (fun _ => rfl) (by omega) (by omega) (by omega) (by omega) (fun h51643 e51643 g51643 => ?_)
              have k51643 := k0.wr e51643 rfl
              refine ev_aload_n rfl ?_
              refine g_getp (r := 42) (c := 80) g51643 ad42 (by decide) (by decide) rf42_63 ft12_63 ?_
              refine ev_iload_n rfl ?_
              refine ev_iload_n rfl ?_
              refine g_iast g51643 ad80 rt80 (fun _ => rfl) (by omega) (by omega) (by omega) (by omega) (fun h51644 e51644 g51644 => ?_)
              have k51644 := k51643.wr e51644 rfl
              refine ev_bipush ?_
              refine ev_iload_n rfl ?_
              refine ev_imul (r := (60 * a1)) (by unfold w32; omega) ?_
              refine ev_istore (L' := [(2, 42), (0, a1), (0, a2), (0, a3), (0, (60 * a1))]) (Nat.le_of_ble_eq_true rfl) rfl ?_
              exact (s372_l la1 ua1 la2 ua2 la3 ua3 722) _ _ g51644 k51644 (by omega) (by omega) (by omega) (by omega) (by omega) (by omega) (by omega) (by omega) (by omega)
            · refine ev_bipush ?_
              exact ev_ret rfl (by decide) (by decide) ⟨_, rfl, by omega, by omega, g, k0⟩
          · refine ev_iconst ?_
            exact ev_ret rfl (by decide) (by decide) ⟨_, rfl, by omega, by omega, g, k0⟩
/-! 374 put -/
set_option maxHeartbeats 4000000 in
theorem s374 {G : GH} {h : JH} (g : Gd G h) {a1 : Int} (la1 : (-2147483648) ≤ a1) (ua1 : a1 ≤ 2147483647) {a2 : Int} (la2 : (-2147483648) ≤ a2) (ua2 : a2 ≤ 2147483647) {a3 : Int} (la3 : (-9223372036854775808) ≤ a3) (ua3 : a3 ≤ 9223372036854775807) : jOk 4 0 0 374 [(2, 42), (0, a1), (0, a2), (1, a3)] h (PI G [(81, 0)] h 0 (-13) 1) := by
  refine ⟨by decide, by rw [ml374]; exact Nat.le_of_ble_eq_true rfl, ?_⟩
  rw [ml374, pp374]
  show jEv _ none _ c374_0 0 0 _ (c374_0, [(2, 42), (0, a1), (0, a2), (1, a3), (9, 0), (9, 0), (9, 0)], [], h, 0, 0)
  have k0 := Kp.rf [(81, 0)] h
  refine ev_aload_n rfl ?_
  refine ev_iload_n rfl ?_
  refine ev_iload_n rfl ?_
  refine ev_in (d := 2) (a := 0) (b := 0) (cd' := c373_0) (m := 3) (L0 := [(2, 42), (0, a1), (0, a2)]) (jcall_v (A := [(0, a2), (0, a1)]) (S' := []) (r := 42) rfl (g.lt ad42) (g.tg ad42) (Nat.le_of_ble_eq_true rfl)) (by decide) ml373 pp373 (Nat.le_of_ble_eq_true rfl) rfl (by decide) (by decide) ?_
  refine ev_iload_n rfl ?_
  refine ev_in (d := 1) (a := 0) (b := 0) (cd' := c370_0) (m := 1) (L0 := [(0, a1)]) (jcall_s (A := [(0, a1)]) (S' := []) (by decide) rfl (Nat.le_of_ble_eq_true rfl)) (by decide) ml370 pp370 (Nat.le_of_ble_eq_true rfl) rfl (by decide) (by decide) ?_
  refine ev_iload_n rfl ?_
  refine ev_iconst ?_
  refine ev_iconst ?_
  refine ev_in (d := 0) (a := 0) (b := 0) (cd' := c242_0) (m := 3) (L0 := [(0, a1), (0, 0), (0, 5)]) (jcall_s (A := [(0, 5), (0, 0), (0, a1)]) (S' := []) (by decide) rfl (Nat.le_of_ble_eq_true rfl)) (by decide) ml242 pp242 (Nat.le_of_ble_eq_true rfl) rfl (by decide) (by decide) ?_
  refine ev_iload_n rfl ?_
  refine ev_iload_n rfl ?_
  refine ev_icmplt f242_14 (fun c51719 => ?_) (fun c51719 => ?_)
  · refine ev_iconst ?_
    refine ev_ret rfl (by decide) (by decide) ?_
    show jEv _ _ _ _ _ _ _ (_, [(0, a1)], [(0, 0)], _, _, _)
    refine ev_ret rfl (by decide) (by decide) ?_
    show jEv _ _ _ _ _ _ _ (_, [(2, 42), (0, a1), (0, a2)], [(0, 0)], _, _, _)
    refine ev_ifne f373_9 (fun c51720 => absurd c51720 (by omega)) (fun c51720 => ?_)
    refine ev_iconst ?_
    refine ev_ret rfl (by decide) (by decide) ?_
    show jEv _ _ _ _ _ _ _ (_, [(2, 42), (0, a1), (0, a2), (1, a3), (9, 0), (9, 0), (9, 0)], [(0, (-1))], _, _, _)
    refine ev_istore (L' := [(2, 42), (0, a1), (0, a2), (1, a3), (9, 0), (0, (-1)), (9, 0)]) (Nat.le_of_ble_eq_true rfl) rfl ?_
    refine ev_iload rfl ?_
    refine ev_ifge f374_16 (fun c51721 => absurd c51721 (by omega)) (fun c51721 => ?_)
    refine ev_iload rfl ?_
    exact ev_ret rfl (by decide) (by decide) ⟨_, rfl, by omega, by omega, g, k0⟩
  · refine ev_iload_n rfl ?_
    refine ev_iload_n rfl ?_
    refine ev_icmpgt f242_14 (fun c51722 => ?_) (fun c51722 => ?_)
    · refine ev_iconst ?_
      refine ev_ret rfl (by decide) (by decide) ?_
      show jEv _ _ _ _ _ _ _ (_, [(0, a1)], [(0, 0)], _, _, _)
      refine ev_ret rfl (by decide) (by decide) ?_
      show jEv _ _ _ _ _ _ _ (_, [(2, 42), (0, a1), (0, a2)], [(0, 0)], _, _, _)
      refine ev_ifne f373_9 (fun c51723 => absurd c51723 (by omega)) (fun c51723 => ?_)
      refine ev_iconst ?_
      refine ev_ret rfl (by decide) (by decide) ?_
      show jEv _ _ _ _ _ _ _ (_, [(2, 42), (0, a1), (0, a2), (1, a3), (9, 0), (9, 0), (9, 0)], [(0, (-1))], _, _, _)
      refine ev_istore (L' := [(2, 42), (0, a1), (0, a2), (1, a3), (9, 0), (0, (-1)), (9, 0)]) (Nat.le_of_ble_eq_true rfl) rfl ?_
      refine ev_iload rfl ?_
      refine ev_ifge f374_16 (fun c51724 => absurd c51724 (by omega)) (fun c51724 => ?_)
      refine ev_iload rfl ?_
      exact ev_ret rfl (by decide) (by decide) ⟨_, rfl, by omega, by omega, g, k0⟩
    · refine ev_iconst ?_
      refine ev_goto f242_15 ?_
      refine ev_ret rfl (by decide) (by decide) ?_
      show jEv _ _ _ _ _ _ _ (_, [(0, a1)], [(0, 1)], _, _, _)
      refine ev_ret rfl (by decide) (by decide) ?_
      show jEv _ _ _ _ _ _ _ (_, [(2, 42), (0, a1), (0, a2)], [(0, 1)], _, _, _)
      refine ev_ifne f373_9 (fun c51725 => ?_) (fun c51725 => absurd c51725 (by omega))
      refine ev_aload_n rfl ?_
      refine g_getp (r := 42) (c := 79) g ad42 (by decide) (by decide) rf42_62 ft12_62 ?_
      refine ev_iload_n rfl ?_
      refine g_iald g ad79 rt79 (by omega) (by omega) (fun v51726 ev51726 lv51726 uv51726 => ?_)
      refine ev_iconst ?_
      refine ev_icmpne f373_22 (fun c51727 => ?_) (fun c51727 => ?_)
      · refine ev_aload_n rfl ?_
        refine g_getp (r := 42) (c := 79) g ad42 (by decide) (by decide) rf42_62 ft12_62 ?_
        refine ev_iload_n rfl ?_
        refine g_ialdv (v := v51726) g ad79 (by omega) (by omega) (ev51726) ?_
        refine ev_iflt f373_34 (fun c51728 => ?_) (fun c51728 => ?_)
        · refine ev_iload_n rfl ?_
          refine ev_iconst ?_
          refine ev_aload_n rfl ?_
          refine g_getp (r := 42) (c := 80) g ad42 (by decide) (by decide) rf42_63 ft12_63 ?_
          refine ev_iload_n rfl ?_
          refine g_iald g ad80 rt80 (by omega) (by omega) (fun v51729 ev51729 lv51729 uv51729 => ?_)
          refine ev_iconst ?_
          refine ev_isub (r := (v51729 - 1)) (by unfold w32; omega) ?_
          refine ev_in (d := 1) (a := 0) (b := 0) (cd' := c242_0) (m := 3) (L0 := [(0, a2), (0, 0), (0, (v51729 - 1))]) (jcall_s (A := [(0, (v51729 - 1)), (0, 0), (0, a2)]) (S' := []) (by decide) rfl (Nat.le_of_ble_eq_true rfl)) (by decide) ml242 pp242 (Nat.le_of_ble_eq_true rfl) rfl (by decide) (by decide) ?_
          refine ev_iload_n rfl ?_
          refine ev_iload_n rfl ?_
          refine ev_icmplt f242_14 (fun c51730 => ?_) (fun c51730 => ?_)
          · refine ev_iconst ?_
            refine ev_ret rfl (by decide) (by decide) ?_
            show jEv _ _ _ _ _ _ _ (_, [(2, 42), (0, a1), (0, a2)], [(0, 0)], _, _, _)
            refine ev_ifeq f373_54 (fun c51731 => ?_) (fun c51731 => absurd c51731 (by omega))
            refine ev_bipush ?_
            refine ev_ret rfl (by decide) (by decide) ?_
            show jEv _ _ _ _ _ _ _ (_, [(2, 42), (0, a1), (0, a2), (1, a3), (9, 0), (9, 0), (9, 0)], [(0, (-13))], _, _, _)
            refine ev_istore (L' := [(2, 42), (0, a1), (0, a2), (1, a3), (9, 0), (0, (-13)), (9, 0)]) (Nat.le_of_ble_eq_true rfl) rfl ?_
            refine ev_iload rfl ?_
            refine ev_ifge f374_16 (fun c51732 => absurd c51732 (by omega)) (fun c51732 => ?_)
            refine ev_iload rfl ?_
            exact ev_ret rfl (by decide) (by decide) ⟨_, rfl, by omega, by omega, g, k0⟩
          · refine ev_iload_n rfl ?_
            refine ev_iload_n rfl ?_
            refine ev_icmpgt f242_14 (fun c51733 => ?_) (fun c51733 => ?_)
            · refine ev_iconst ?_
              refine ev_ret rfl (by decide) (by decide) ?_
              show jEv _ _ _ _ _ _ _ (_, [(2, 42), (0, a1), (0, a2)], [(0, 0)], _, _, _)
              refine ev_ifeq f373_54 (fun c51734 => ?_) (fun c51734 => absurd c51734 (by omega))
              refine ev_bipush ?_
              refine ev_ret rfl (by decide) (by decide) ?_
              show jEv _ _ _ _ _ _ _ (_, [(2, 42), (0, a1), (0, a2), (1, a3), (9, 0), (9, 0), (9, 0)], [(0, (-13))], _, _, _)
              refine ev_istore (L' := [(2, 42), (0, a1), (0, a2), (1, a3), (9, 0), (0, (-13)), (9, 0)]) (Nat.le_of_ble_eq_true rfl) rfl ?_
              refine ev_iload rfl ?_
              refine ev_ifge f374_16 (fun c51735 => absurd c51735 (by omega)) (fun c51735 => ?_)
              refine ev_iload rfl ?_
              exact ev_ret rfl (by decide) (by decide) ⟨_, rfl, by omega, by omega, g, k0⟩
            · refine ev_iconst ?_
              refine ev_goto f242_15 ?_
              refine ev_ret rfl (by decide) (by decide) ?_
              show jEv _ _ _ _ _ _ _ (_, [(2, 42), (0, a1), (0, a2)], [(0, 1)], _, _, _)
              refine ev_ifeq f373_54 (fun c51736 => absurd c51736 (by omega)) (fun c51736 => ?_)
              refine ev_iconst ?_
              refine ev_goto f373_56 ?_
              refine ev_ret rfl (by decide) (by decide) ?_
              show jEv _ _ _ _ _ _ _ (_, [(2, 42), (0, a1), (0, a2), (1, a3), (9, 0), (9, 0), (9, 0)], [(0, 0)], _, _, _)
              refine ev_istore (L' := [(2, 42), (0, a1), (0, a2), (1, a3), (9, 0), (0, 0), (9, 0)]) (Nat.le_of_ble_eq_true rfl) rfl ?_
              refine ev_iload rfl ?_
              refine ev_ifge f374_16 (fun c51737 => ?_) (fun c51737 => absurd c51737 (by omega))
              refine ev_bipush ?_
              refine ev_aload_n rfl ?_
              refine g_getp (r := 42) (c := 79) g ad42 (by decide) (by decide) rf42_62 ft12_62 ?_
              refine ev_iload_n rfl ?_
              refine g_ialdv (v := v51726) g ad79 (by omega) (by omega) (ev51726) ?_
              refine ev_isub (r := ((-v51726) - 2)) (by unfold w32; omega) ?_
              refine ev_istore (L' := [(2, 42), (0, a1), (0, a2), (1, a3), (9, 0), (0, 0), (0, ((-v51726) - 2))]) (Nat.le_of_ble_eq_true rfl) rfl ?_
              refine ev_aload_n rfl ?_
              refine g_getp (r := 42) (c := 81) g ad42 (by decide) (by decide) rf42_64 ft12_64 ?_
              refine ev_bipush ?_
              refine ev_iload_n rfl ?_
              refine ev_imul (r := (60 * a1)) (by unfold w32; omega) ?_
              refine ev_iload_n rfl ?_
              refine ev_iadd (r := (60 * a1 + a2)) (by unfold w32; omega) ?_
              refine ev_iload rfl ?_
              refine ev_ifne f374_49 (fun c51738 => ?_) (fun c51738 => ?_)
              · refine ev_iload rfl ?_
                refine ev_iconst ?_
                refine ev_icmpne f374_62 (fun c51739 => ?_) (fun c51739 => ?_)
                · refine ev_iload rfl ?_
                  refine ev_iconst ?_
                  refine ev_icmpne f374_74 (fun c51740 => ?_) (fun c51740 => ?_)
                  · refine ev_iload rfl ?_
                    refine ev_iconst ?_
                    refine ev_icmpne f374_84 (fun c51741 => ?_) (fun c51741 => ?_)
                    · refine ev_lload_n rfl ?_
                      refine ev_lconst ?_
                      refine ev_lcmp ?_
                      refine ev_ifeq f374_94 (fun c51742 => ?_) (fun c51742 => ?_)
                      · have c51742b := jcmpL_eq c51742
                        refine ev_lconst ?_
                        refine g_last g ad81 rt81 (fun _ => rfl) (by omega) (by omega) (by omega) (by omega) (fun h51743 e51743 g51743 => ?_)
                        have k51743 := k0.wr e51743 rfl
                        refine ev_iconst ?_
                        exact ev_ret rfl (by decide) (by decide) ⟨_, rfl, by omega, by omega, g51743, k51743⟩
                      · have c51742b := jcmpL_eqN c51742
                        refine ev_lconst ?_
                        refine ev_goto f374_95 ?_
                        refine g_last g ad81 rt81 (fun _ => rfl) (by omega) (by omega) (by omega) (by omega) (fun h51744 e51744 g51744 => ?_)
                        have k51744 := k0.wr e51744 rfl
                        refine ev_iconst ?_
                        exact ev_ret rfl (by decide) (by decide) ⟨_, rfl, by omega, by omega, g51744, k51744⟩
                    · refine ev_lload_n rfl ?_
                      refine ev_goto f374_95 ?_
                      refine g_last g ad81 rt81 (fun _ => rfl) (by omega) (by omega) (by omega) (by omega) (fun h51745 e51745 g51745 => ?_)
                      have k51745 := k0.wr e51745 rfl
                      refine ev_iconst ?_
                      exact ev_ret rfl (by decide) (by decide) ⟨_, rfl, by omega, by omega, g51745, k51745⟩
                  · refine ev_lload_n rfl ?_
                    refine g_l2iG (fun v51746 ev51746 lv51746 uv51746 => ?_)
                    refine ev_i2l ?_
                    refine ev_goto f374_95 ?_
                    refine g_last g ad81 rt81 (fun _ => rfl) (by omega) (by omega) (by omega) (by omega) (fun h51747 e51747 g51747 => ?_)
                    have k51747 := k0.wr e51747 rfl
                    refine ev_iconst ?_
                    exact ev_ret rfl (by decide) (by decide) ⟨_, rfl, by omega, by omega, g51747, k51747⟩
                · refine ev_lload_n rfl ?_
                  refine g_l2iG (fun v51748 ev51748 lv51748 uv51748 => ?_)
                  refine g_i2sG (fun v51749 ev51749 lv51749 uv51749 => ?_)
                  refine ev_i2l ?_
                  refine ev_goto f374_95 ?_
                  refine g_last g ad81 rt81 (fun _ => rfl) (by omega) (by omega) (by omega) (by omega) (fun h51750 e51750 g51750 => ?_)
                  have k51750 := k0.wr e51750 rfl
                  refine ev_iconst ?_
                  exact ev_ret rfl (by decide) (by decide) ⟨_, rfl, by omega, by omega, g51750, k51750⟩
              · refine ev_lload_n rfl ?_
                refine g_l2iG (fun v51751 ev51751 lv51751 uv51751 => ?_)
                refine g_i2bG (fun v51752 ev51752 lv51752 uv51752 => ?_)
                refine ev_i2l ?_
                refine ev_goto f374_95 ?_
                refine g_last g ad81 rt81 (fun _ => rfl) (by omega) (by omega) (by omega) (by omega) (fun h51753 e51753 g51753 => ?_)
                have k51753 := k0.wr e51753 rfl
                refine ev_iconst ?_
                exact ev_ret rfl (by decide) (by decide) ⟨_, rfl, by omega, by omega, g51753, k51753⟩
        · refine ev_bipush ?_
          refine ev_ret rfl (by decide) (by decide) ?_
          show jEv _ _ _ _ _ _ _ (_, [(2, 42), (0, a1), (0, a2), (1, a3), (9, 0), (9, 0), (9, 0)], [(0, (-12))], _, _, _)
          refine ev_istore (L' := [(2, 42), (0, a1), (0, a2), (1, a3), (9, 0), (0, (-12)), (9, 0)]) (Nat.le_of_ble_eq_true rfl) rfl ?_
          refine ev_iload rfl ?_
          refine ev_ifge f374_16 (fun c51754 => absurd c51754 (by omega)) (fun c51754 => ?_)
          refine ev_iload rfl ?_
          exact ev_ret rfl (by decide) (by decide) ⟨_, rfl, by omega, by omega, g, k0⟩
      · refine ev_bipush ?_
        refine ev_ret rfl (by decide) (by decide) ?_
        show jEv _ _ _ _ _ _ _ (_, [(2, 42), (0, a1), (0, a2), (1, a3), (9, 0), (9, 0), (9, 0)], [(0, (-11))], _, _, _)
        refine ev_istore (L' := [(2, 42), (0, a1), (0, a2), (1, a3), (9, 0), (0, (-11)), (9, 0)]) (Nat.le_of_ble_eq_true rfl) rfl ?_
        refine ev_iload rfl ?_
        refine ev_ifge f374_16 (fun c51755 => absurd c51755 (by omega)) (fun c51755 => ?_)
        refine ev_iload rfl ?_
        exact ev_ret rfl (by decide) (by decide) ⟨_, rfl, by omega, by omega, g, k0⟩
/-! 375 element -/
set_option maxHeartbeats 4000000 in
theorem s375 {G : GH} {h : JH} (g : Gd G h) {a1 : Int} (la1 : (-2147483648) ≤ a1) (ua1 : a1 ≤ 2147483647) {a2 : Int} (la2 : (-2147483648) ≤ a2) (ua2 : a2 ≤ 2147483647) : jOk 4 0 0 375 [(2, 42), (0, a1), (0, a2)] h (PI G [] h 1 (-9223372036854775808) 9223372036854775807) := by
  refine ⟨by decide, by rw [ml375]; exact Nat.le_of_ble_eq_true rfl, ?_⟩
  rw [ml375, pp375]
  show jEv _ none _ c375_0 0 0 _ (c375_0, [(2, 42), (0, a1), (0, a2)], [], h, 0, 0)
  have k0 := Kp.rf [] h
  refine ev_aload_n rfl ?_
  refine ev_iload_n rfl ?_
  refine ev_iload_n rfl ?_
  refine ev_in (d := 2) (a := 0) (b := 0) (cd' := c373_0) (m := 3) (L0 := [(2, 42), (0, a1), (0, a2)]) (jcall_v (A := [(0, a2), (0, a1)]) (S' := []) (r := 42) rfl (g.lt ad42) (g.tg ad42) (Nat.le_of_ble_eq_true rfl)) (by decide) ml373 pp373 (Nat.le_of_ble_eq_true rfl) rfl (by decide) (by decide) ?_
  refine ev_iload_n rfl ?_
  refine ev_in (d := 1) (a := 0) (b := 0) (cd' := c370_0) (m := 1) (L0 := [(0, a1)]) (jcall_s (A := [(0, a1)]) (S' := []) (by decide) rfl (Nat.le_of_ble_eq_true rfl)) (by decide) ml370 pp370 (Nat.le_of_ble_eq_true rfl) rfl (by decide) (by decide) ?_
  refine ev_iload_n rfl ?_
  refine ev_iconst ?_
  refine ev_iconst ?_
  refine ev_in (d := 0) (a := 0) (b := 0) (cd' := c242_0) (m := 3) (L0 := [(0, a1), (0, 0), (0, 5)]) (jcall_s (A := [(0, 5), (0, 0), (0, a1)]) (S' := []) (by decide) rfl (Nat.le_of_ble_eq_true rfl)) (by decide) ml242 pp242 (Nat.le_of_ble_eq_true rfl) rfl (by decide) (by decide) ?_
  refine ev_iload_n rfl ?_
  refine ev_iload_n rfl ?_
  refine ev_icmplt f242_14 (fun c51800 => ?_) (fun c51800 => ?_)
  · refine ev_iconst ?_
    refine ev_ret rfl (by decide) (by decide) ?_
    show jEv _ _ _ _ _ _ _ (_, [(0, a1)], [(0, 0)], _, _, _)
    refine ev_ret rfl (by decide) (by decide) ?_
    show jEv _ _ _ _ _ _ _ (_, [(2, 42), (0, a1), (0, a2)], [(0, 0)], _, _, _)
    refine ev_ifne f373_9 (fun c51801 => absurd c51801 (by omega)) (fun c51801 => ?_)
    refine ev_iconst ?_
    refine ev_ret rfl (by decide) (by decide) ?_
    show jEv _ _ _ _ _ _ _ (_, [(2, 42), (0, a1), (0, a2)], [(0, (-1))], _, _, _)
    refine ev_ifge f375_15 (fun c51802 => absurd c51802 (by omega)) (fun c51802 => ?_)
    refine ev_ldc2_w ?_
    refine ev_goto f375_26 ?_
    exact ev_ret rfl (by decide) (by decide) ⟨_, rfl, by omega, by omega, g, k0⟩
  · refine ev_iload_n rfl ?_
    refine ev_iload_n rfl ?_
    refine ev_icmpgt f242_14 (fun c51803 => ?_) (fun c51803 => ?_)
    · refine ev_iconst ?_
      refine ev_ret rfl (by decide) (by decide) ?_
      show jEv _ _ _ _ _ _ _ (_, [(0, a1)], [(0, 0)], _, _, _)
      refine ev_ret rfl (by decide) (by decide) ?_
      show jEv _ _ _ _ _ _ _ (_, [(2, 42), (0, a1), (0, a2)], [(0, 0)], _, _, _)
      refine ev_ifne f373_9 (fun c51804 => absurd c51804 (by omega)) (fun c51804 => ?_)
      refine ev_iconst ?_
      refine ev_ret rfl (by decide) (by decide) ?_
      show jEv _ _ _ _ _ _ _ (_, [(2, 42), (0, a1), (0, a2)], [(0, (-1))], _, _, _)
      refine ev_ifge f375_15 (fun c51805 => absurd c51805 (by omega)) (fun c51805 => ?_)
      refine ev_ldc2_w ?_
      refine ev_goto f375_26 ?_
      exact ev_ret rfl (by decide) (by decide) ⟨_, rfl, by omega, by omega, g, k0⟩
    · refine ev_iconst ?_
      refine ev_goto f242_15 ?_
      refine ev_ret rfl (by decide) (by decide) ?_
      show jEv _ _ _ _ _ _ _ (_, [(0, a1)], [(0, 1)], _, _, _)
      refine ev_ret rfl (by decide) (by decide) ?_
      show jEv _ _ _ _ _ _ _ (_, [(2, 42), (0, a1), (0, a2)], [(0, 1)], _, _, _)
      refine ev_ifne f373_9 (fun c51806 => ?_) (fun c51806 => absurd c51806 (by omega))
      refine ev_aload_n rfl ?_
      refine g_getp (r := 42) (c := 79) g ad42 (by decide) (by decide) rf42_62 ft12_62 ?_
      refine ev_iload_n rfl ?_
      refine g_iald g ad79 rt79 (by omega) (by omega) (fun v51807 ev51807 lv51807 uv51807 => ?_)
      refine ev_iconst ?_
      refine ev_icmpne f373_22 (fun c51808 => ?_) (fun c51808 => ?_)
      · refine ev_aload_n rfl ?_
        refine g_getp (r := 42) (c := 79) g ad42 (by decide) (by decide) rf42_62 ft12_62 ?_
        refine ev_iload_n rfl ?_
        refine g_ialdv (v := v51807) g ad79 (by omega) (by omega) (ev51807) ?_
        refine ev_iflt f373_34 (fun c51809 => ?_) (fun c51809 => ?_)
        · refine ev_iload_n rfl ?_
          refine ev_iconst ?_
          refine ev_aload_n rfl ?_
          refine g_getp (r := 42) (c := 80) g ad42 (by decide) (by decide) rf42_63 ft12_63 ?_
          refine ev_iload_n rfl ?_
          refine g_iald g ad80 rt80 (by omega) (by omega) (fun v51810 ev51810 lv51810 uv51810 => ?_)
          refine ev_iconst ?_
          refine ev_isub (r := (v51810 - 1)) (by unfold w32; omega) ?_
          refine ev_in (d := 1) (a := 0) (b := 0) (cd' := c242_0) (m := 3) (L0 := [(0, a2), (0, 0), (0, (v51810 - 1))]) (jcall_s (A := [(0, (v51810 - 1)), (0, 0), (0, a2)]) (S' := []) (by decide) rfl (Nat.le_of_ble_eq_true rfl)) (by decide) ml242 pp242 (Nat.le_of_ble_eq_true rfl) rfl (by decide) (by decide) ?_
          refine ev_iload_n rfl ?_
          refine ev_iload_n rfl ?_
          refine ev_icmplt f242_14 (fun c51811 => ?_) (fun c51811 => ?_)
          · refine ev_iconst ?_
            refine ev_ret rfl (by decide) (by decide) ?_
            show jEv _ _ _ _ _ _ _ (_, [(2, 42), (0, a1), (0, a2)], [(0, 0)], _, _, _)
            refine ev_ifeq f373_54 (fun c51812 => ?_) (fun c51812 => absurd c51812 (by omega))
            refine ev_bipush ?_
            refine ev_ret rfl (by decide) (by decide) ?_
            show jEv _ _ _ _ _ _ _ (_, [(2, 42), (0, a1), (0, a2)], [(0, (-13))], _, _, _)
            refine ev_ifge f375_15 (fun c51813 => absurd c51813 (by omega)) (fun c51813 => ?_)
            refine ev_ldc2_w ?_
            refine ev_goto f375_26 ?_
            exact ev_ret rfl (by decide) (by decide) ⟨_, rfl, by omega, by omega, g, k0⟩
          · refine ev_iload_n rfl ?_
            refine ev_iload_n rfl ?_
            refine ev_icmpgt f242_14 (fun c51814 => ?_) (fun c51814 => ?_)
            · refine ev_iconst ?_
              refine ev_ret rfl (by decide) (by decide) ?_
              show jEv _ _ _ _ _ _ _ (_, [(2, 42), (0, a1), (0, a2)], [(0, 0)], _, _, _)
              refine ev_ifeq f373_54 (fun c51815 => ?_) (fun c51815 => absurd c51815 (by omega))
              refine ev_bipush ?_
              refine ev_ret rfl (by decide) (by decide) ?_
              show jEv _ _ _ _ _ _ _ (_, [(2, 42), (0, a1), (0, a2)], [(0, (-13))], _, _, _)
              refine ev_ifge f375_15 (fun c51816 => absurd c51816 (by omega)) (fun c51816 => ?_)
              refine ev_ldc2_w ?_
              refine ev_goto f375_26 ?_
              exact ev_ret rfl (by decide) (by decide) ⟨_, rfl, by omega, by omega, g, k0⟩
            · refine ev_iconst ?_
              refine ev_goto f242_15 ?_
              refine ev_ret rfl (by decide) (by decide) ?_
              show jEv _ _ _ _ _ _ _ (_, [(2, 42), (0, a1), (0, a2)], [(0, 1)], _, _, _)
              refine ev_ifeq f373_54 (fun c51817 => absurd c51817 (by omega)) (fun c51817 => ?_)
              refine ev_iconst ?_
              refine ev_goto f373_56 ?_
              refine ev_ret rfl (by decide) (by decide) ?_
              show jEv _ _ _ _ _ _ _ (_, [(2, 42), (0, a1), (0, a2)], [(0, 0)], _, _, _)
              refine ev_ifge f375_15 (fun c51818 => ?_) (fun c51818 => absurd c51818 (by omega))
              refine ev_aload_n rfl ?_
              refine g_getp (r := 42) (c := 81) g ad42 (by decide) (by decide) rf42_64 ft12_64 ?_
              refine ev_bipush ?_
              refine ev_iload_n rfl ?_
              refine ev_imul (r := (60 * a1)) (by unfold w32; omega) ?_
              refine ev_iload_n rfl ?_
              refine ev_iadd (r := (60 * a1 + a2)) (by unfold w32; omega) ?_
              refine g_lald g ad81 rt81 (by omega) (by omega) (fun v51819 ev51819 lv51819 uv51819 => ?_)
              exact ev_ret rfl (by decide) (by decide) ⟨_, rfl, by omega, by omega, g, k0⟩
        · refine ev_bipush ?_
          refine ev_ret rfl (by decide) (by decide) ?_
          show jEv _ _ _ _ _ _ _ (_, [(2, 42), (0, a1), (0, a2)], [(0, (-12))], _, _, _)
          refine ev_ifge f375_15 (fun c51820 => absurd c51820 (by omega)) (fun c51820 => ?_)
          refine ev_ldc2_w ?_
          refine ev_goto f375_26 ?_
          exact ev_ret rfl (by decide) (by decide) ⟨_, rfl, by omega, by omega, g, k0⟩
      · refine ev_bipush ?_
        refine ev_ret rfl (by decide) (by decide) ?_
        show jEv _ _ _ _ _ _ _ (_, [(2, 42), (0, a1), (0, a2)], [(0, (-11))], _, _, _)
        refine ev_ifge f375_15 (fun c51821 => absurd c51821 (by omega)) (fun c51821 => ?_)
        refine ev_ldc2_w ?_
        refine ev_goto f375_26 ?_
        exact ev_ret rfl (by decide) (by decide) ⟨_, rfl, by omega, by omega, g, k0⟩
/-! 376 shift -/
set_option maxHeartbeats 4000000 in
theorem s376_l {G : GH} {h : JH} {a1 : Int} (la1 : (-2147483648) ≤ a1) (ua1 : a1 ≤ 2147483647) {a2 : Int} (la2 : (-2147483648) ≤ a2) (ua2 : a2 ≤ 2147483647) {a3 : Int} (la3 : (-2147483648) ≤ a3) (ua3 : a3 ≤ 2147483647) {a4 : Int} (la4 : (-2147483648) ≤ a4) (ua4 : a4 ≤ 2147483647) {a5 : Int} (la5 : (-2147483648) ≤ a5) (ua5 : a5 ≤ 2147483647) : ∀ N : Nat, (∀ (h1 : JH) (x6 : Int), Gd G h1 → Kp [(81, 0), (82, 0)] h h1 → 0 ≤ a1 → a1 ≤ 5 → 0 ≤ a2 → a2 ≤ 60 → 0 ≤ a3 → a3 ≤ 5 → 0 ≤ a4 → a4 ≤ 60 → 0 ≤ a5 → a5 ≤ 60 → 0 ≤ x6 → x6 ≤ 60 → (a2 + a5) ≤ 60 → (a4 + a5) ≤ 60 → ((-x6) + 121) < N → jEv (jOk 2) none (fun _ => 0) c376_0 0 0 (PI G [(81, 0), (82, 0)] h 0 (-13) 60) (c376_113, [(2, 42), (0, a1), (0, a2), (0, a3), (0, a4), (0, a5), (0, x6)], [], h1, 0, 0)) ∧ (∀ (h1 : JH) (x6 : Int), Gd G h1 → Kp [(81, 0), (82, 0)] h h1 → 0 ≤ a1 → a1 ≤ 5 → 0 ≤ a2 → a2 ≤ 60 → 0 ≤ a3 → a3 ≤ 5 → 0 ≤ a4 → a4 ≤ 60 → 0 ≤ a5 → a5 ≤ 60 → 0 ≤ x6 → x6 ≤ 60 → (a2 + a5) ≤ 60 → (a4 + a5) ≤ 60 → ((-x6) + 60) < N → jEv (jOk 2) none (fun _ => 0) c376_0 0 0 (PI G [(81, 0), (82, 0)] h 0 (-13) 60) (c376_150, [(2, 42), (0, a1), (0, a2), (0, a3), (0, a4), (0, a5), (0, x6)], [], h1, 0, 0)) := by
  intro N
  induction N with
  | zero => exact ⟨fun h1 x6 g1 k1 b0 b1 b2 b3 b4 b5 b6 b7 b8 b9 b10 b11 b12 b13 hm => absurd hm (by omega), fun h1 x6 g1 k1 b0 b1 b2 b3 b4 b5 b6 b7 b8 b9 b10 b11 b12 b13 hm => absurd hm (by omega)⟩
  | succ N ih =>
    refine ⟨?_, ?_⟩
    · intro h1 x6 g1 k1 b0 b1 b2 b3 b4 b5 b6 b7 b8 b9 b10 b11 b12 b13 hm
      refine ev_iload rfl ?_
      refine ev_iload rfl ?_
      refine ev_icmpge f376_147 (fun c52048 => ?_) (fun c52048 => ?_)
      · refine ev_iconst ?_
        refine ev_istore (L' := [(2, 42), (0, a1), (0, a2), (0, a3), (0, a4), (0, a5), (0, 0)]) (Nat.le_of_ble_eq_true rfl) rfl ?_
        exact ih.2 _ _ g1 k1 (by omega) (by omega) (by omega) (by omega) (by omega) (by omega) (by omega) (by omega) (by omega) (by omega) (by omega) (by omega) (by omega) (by omega) (by omega)
      · refine ev_aload_n rfl ?_
        refine g_getp (r := 42) (c := 82) g1 ad42 (by decide) (by decide) rf42_65 ft12_65 ?_
        refine ev_iload rfl ?_
        refine ev_aload_n rfl ?_
        refine g_getp (r := 42) (c := 81) g1 ad42 (by decide) (by decide) rf42_64 ft12_64 ?_
        refine ev_bipush ?_
        refine ev_iload_n rfl ?_
        refine ev_imul (r := (60 * a1)) (by unfold w32; omega) ?_
        refine ev_iload_n rfl ?_
        refine ev_iadd (r := (60 * a1 + a2)) (by unfold w32; omega) ?_
        refine ev_iload rfl ?_
        refine ev_iadd (r := (60 * a1 + a2 + x6)) (by unfold w32; omega) ?_
        refine g_lald g1 ad81 rt81 (by omega) (by omega) (fun v52049 ev52049 lv52049 uv52049 => ?_)
        refine g_last g1 ad82 rt82 (fun _ => rfl) (by omega) (by omega) (by omega) (by omega) (fun h52050 e52050 g52050 => ?_)
        have k52050 := k1.wr e52050 rfl
        refine ev_iinc (w := (x6 + 1)) (L' := [(2, 42), (0, a1), (0, a2), (0, a3), (0, a4), (0, a5), (0, (x6 + 1))]) rfl (by unfold w32; omega) rfl ?_
        refine ev_goto f376_113 ?_
        exact ih.1 _ _ g52050 k52050 (by omega) (by omega) (by omega) (by omega) (by omega) (by omega) (by omega) (by omega) (by omega) (by omega) (by omega) (by omega) (by omega) (by omega) (by omega)
    · intro h1 x6 g1 k1 b0 b1 b2 b3 b4 b5 b6 b7 b8 b9 b10 b11 b12 b13 hm
      refine ev_iload rfl ?_
      refine ev_iload rfl ?_
      refine ev_icmpge f376_185 (fun c52051 => ?_) (fun c52051 => ?_)
      · refine ev_iload rfl ?_
        exact ev_ret rfl (by decide) (by decide) ⟨_, rfl, by omega, by omega, g1, k1⟩
      · refine ev_aload_n rfl ?_
        refine g_getp (r := 42) (c := 81) g1 ad42 (by decide) (by decide) rf42_64 ft12_64 ?_
        refine ev_bipush ?_
        refine ev_iload_n rfl ?_
        refine ev_imul (r := (60 * a3)) (by unfold w32; omega) ?_
        refine ev_iload rfl ?_
        refine ev_iadd (r := (60 * a3 + a4)) (by unfold w32; omega) ?_
        refine ev_iload rfl ?_
        refine ev_iadd (r := (60 * a3 + a4 + x6)) (by unfold w32; omega) ?_
        refine ev_aload_n rfl ?_
        refine g_getp (r := 42) (c := 82) g1 ad42 (by decide) (by decide) rf42_65 ft12_65 ?_
        refine ev_iload rfl ?_
        refine g_lald g1 ad82 rt82 (by omega) (by omega) (fun v52052 ev52052 lv52052 uv52052 => ?_)
        refine g_last g1 ad81 rt81 (fun _ => rfl) (by omega) (by omega) (by omega) (by omega) (fun h52053 e52053 g52053 => ?_)
        have k52053 := k1.wr e52053 rfl
        refine ev_iinc (w := (x6 + 1)) (L' := [(2, 42), (0, a1), (0, a2), (0, a3), (0, a4), (0, a5), (0, (x6 + 1))]) rfl (by unfold w32; omega) rfl ?_
        refine ev_goto f376_150 ?_
        exact ih.2 _ _ g52053 k52053 (by omega) (by omega) (by omega) (by omega) (by omega) (by omega) (by omega) (by omega) (by omega) (by omega) (by omega) (by omega) (by omega) (by omega) (by omega)
set_option maxHeartbeats 4000000 in
theorem s376 {G : GH} {h : JH} (g : Gd G h) {a1 : Int} (la1 : (-2147483648) ≤ a1) (ua1 : a1 ≤ 2147483647) {a2 : Int} (la2 : (-2147483648) ≤ a2) (ua2 : a2 ≤ 2147483647) {a3 : Int} (la3 : (-2147483648) ≤ a3) (ua3 : a3 ≤ 2147483647) {a4 : Int} (la4 : (-2147483648) ≤ a4) (ua4 : a4 ≤ 2147483647) {a5 : Int} (la5 : (-2147483648) ≤ a5) (ua5 : a5 ≤ 2147483647) : jOk 3 0 0 376 [(2, 42), (0, a1), (0, a2), (0, a3), (0, a4), (0, a5)] h (PI G [(81, 0), (82, 0)] h 0 (-13) 60) := by
  refine ⟨by decide, by rw [ml376]; exact Nat.le_of_ble_eq_true rfl, ?_⟩
  rw [ml376, pp376]
  show jEv _ none _ c376_0 0 0 _ (c376_0, [(2, 42), (0, a1), (0, a2), (0, a3), (0, a4), (0, a5), (9, 0)], [], h, 0, 0)
  have k0 := Kp.rf [(81, 0), (82, 0)] h
  refine ev_iload_n rfl ?_
  refine ev_in (d := 1) (a := 0) (b := 0) (cd' := c370_0) (m := 1) (L0 := [(0, a1)]) (jcall_s (A := [(0, a1)]) (S' := []) (by decide) rfl (Nat.le_of_ble_eq_true rfl)) (by decide) ml370 pp370 (Nat.le_of_ble_eq_true rfl) rfl (by decide) (by decide) ?_
  refine ev_iload_n rfl ?_
  refine ev_iconst ?_
  refine ev_iconst ?_
  refine ev_in (d := 0) (a := 0) (b := 0) (cd' := c242_0) (m := 3) (L0 := [(0, a1), (0, 0), (0, 5)]) (jcall_s (A := [(0, 5), (0, 0), (0, a1)]) (S' := []) (by decide) rfl (Nat.le_of_ble_eq_true rfl)) (by decide) ml242 pp242 (Nat.le_of_ble_eq_true rfl) rfl (by decide) (by decide) ?_
  refine ev_iload_n rfl ?_
  refine ev_iload_n rfl ?_
  refine ev_icmplt f242_14 (fun c52054 => ?_) (fun c52054 => ?_)
  · refine ev_iconst ?_
    refine ev_ret rfl (by decide) (by decide) ?_
    show jEv _ _ _ _ _ _ _ (_, [(0, a1)], [(0, 0)], _, _, _)
    refine ev_ret rfl (by decide) (by decide) ?_
    show jEv _ _ _ _ _ _ _ (_, [(2, 42), (0, a1), (0, a2), (0, a3), (0, a4), (0, a5), (9, 0)], [(0, 0)], _, _, _)
    refine ev_ifeq f376_14 (fun c52055 => ?_) (fun c52055 => absurd c52055 (by omega))
    refine ev_iconst ?_
    exact ev_ret rfl (by decide) (by decide) ⟨_, rfl, by omega, by omega, g, k0⟩
  · refine ev_iload_n rfl ?_
    refine ev_iload_n rfl ?_
    refine ev_icmpgt f242_14 (fun c52056 => ?_) (fun c52056 => ?_)
    · refine ev_iconst ?_
      refine ev_ret rfl (by decide) (by decide) ?_
      show jEv _ _ _ _ _ _ _ (_, [(0, a1)], [(0, 0)], _, _, _)
      refine ev_ret rfl (by decide) (by decide) ?_
      show jEv _ _ _ _ _ _ _ (_, [(2, 42), (0, a1), (0, a2), (0, a3), (0, a4), (0, a5), (9, 0)], [(0, 0)], _, _, _)
      refine ev_ifeq f376_14 (fun c52057 => ?_) (fun c52057 => absurd c52057 (by omega))
      refine ev_iconst ?_
      exact ev_ret rfl (by decide) (by decide) ⟨_, rfl, by omega, by omega, g, k0⟩
    · refine ev_iconst ?_
      refine ev_goto f242_15 ?_
      refine ev_ret rfl (by decide) (by decide) ?_
      show jEv _ _ _ _ _ _ _ (_, [(0, a1)], [(0, 1)], _, _, _)
      refine ev_ret rfl (by decide) (by decide) ?_
      show jEv _ _ _ _ _ _ _ (_, [(2, 42), (0, a1), (0, a2), (0, a3), (0, a4), (0, a5), (9, 0)], [(0, 1)], _, _, _)
      refine ev_ifeq f376_14 (fun c52058 => absurd c52058 (by omega)) (fun c52058 => ?_)
      refine ev_iload_n rfl ?_
      refine ev_in (d := 1) (a := 0) (b := 0) (cd' := c370_0) (m := 1) (L0 := [(0, a3)]) (jcall_s (A := [(0, a3)]) (S' := []) (by decide) rfl (Nat.le_of_ble_eq_true rfl)) (by decide) ml370 pp370 (Nat.le_of_ble_eq_true rfl) rfl (by decide) (by decide) ?_
      refine ev_iload_n rfl ?_
      refine ev_iconst ?_
      refine ev_iconst ?_
      refine ev_in (d := 0) (a := 0) (b := 0) (cd' := c242_0) (m := 3) (L0 := [(0, a3), (0, 0), (0, 5)]) (jcall_s (A := [(0, 5), (0, 0), (0, a3)]) (S' := []) (by decide) rfl (Nat.le_of_ble_eq_true rfl)) (by decide) ml242 pp242 (Nat.le_of_ble_eq_true rfl) rfl (by decide) (by decide) ?_
      refine ev_iload_n rfl ?_
      refine ev_iload_n rfl ?_
      refine ev_icmplt f242_14 (fun c52059 => ?_) (fun c52059 => ?_)
      · refine ev_iconst ?_
        refine ev_ret rfl (by decide) (by decide) ?_
        show jEv _ _ _ _ _ _ _ (_, [(0, a3)], [(0, 0)], _, _, _)
        refine ev_ret rfl (by decide) (by decide) ?_
        show jEv _ _ _ _ _ _ _ (_, [(2, 42), (0, a1), (0, a2), (0, a3), (0, a4), (0, a5), (9, 0)], [(0, 0)], _, _, _)
        refine ev_ifne f376_16 (fun c52060 => absurd c52060 (by omega)) (fun c52060 => ?_)
        refine ev_iconst ?_
        exact ev_ret rfl (by decide) (by decide) ⟨_, rfl, by omega, by omega, g, k0⟩
      · refine ev_iload_n rfl ?_
        refine ev_iload_n rfl ?_
        refine ev_icmpgt f242_14 (fun c52061 => ?_) (fun c52061 => ?_)
        · refine ev_iconst ?_
          refine ev_ret rfl (by decide) (by decide) ?_
          show jEv _ _ _ _ _ _ _ (_, [(0, a3)], [(0, 0)], _, _, _)
          refine ev_ret rfl (by decide) (by decide) ?_
          show jEv _ _ _ _ _ _ _ (_, [(2, 42), (0, a1), (0, a2), (0, a3), (0, a4), (0, a5), (9, 0)], [(0, 0)], _, _, _)
          refine ev_ifne f376_16 (fun c52062 => absurd c52062 (by omega)) (fun c52062 => ?_)
          refine ev_iconst ?_
          exact ev_ret rfl (by decide) (by decide) ⟨_, rfl, by omega, by omega, g, k0⟩
        · refine ev_iconst ?_
          refine ev_goto f242_15 ?_
          refine ev_ret rfl (by decide) (by decide) ?_
          show jEv _ _ _ _ _ _ _ (_, [(0, a3)], [(0, 1)], _, _, _)
          refine ev_ret rfl (by decide) (by decide) ?_
          show jEv _ _ _ _ _ _ _ (_, [(2, 42), (0, a1), (0, a2), (0, a3), (0, a4), (0, a5), (9, 0)], [(0, 1)], _, _, _)
          refine ev_ifne f376_16 (fun c52063 => ?_) (fun c52063 => absurd c52063 (by omega))
          refine ev_aload_n rfl ?_
          refine g_getp (r := 42) (c := 79) g ad42 (by decide) (by decide) rf42_62 ft12_62 ?_
          refine ev_iload_n rfl ?_
          refine g_iald g ad79 rt79 (by omega) (by omega) (fun v52064 ev52064 lv52064 uv52064 => ?_)
          refine ev_iconst ?_
          refine ev_icmpeq f376_36 (fun c52065 => ?_) (fun c52065 => ?_)
          · refine ev_bipush ?_
            exact ev_ret rfl (by decide) (by decide) ⟨_, rfl, by omega, by omega, g, k0⟩
          · refine ev_aload_n rfl ?_
            refine g_getp (r := 42) (c := 79) g ad42 (by decide) (by decide) rf42_62 ft12_62 ?_
            refine ev_iload_n rfl ?_
            refine g_iald g ad79 rt79 (by omega) (by omega) (fun v52066 ev52066 lv52066 uv52066 => ?_)
            refine ev_iconst ?_
            refine ev_icmpne f376_39 (fun c52067 => ?_) (fun c52067 => ?_)
            · refine ev_aload_n rfl ?_
              refine g_getp (r := 42) (c := 79) g ad42 (by decide) (by decide) rf42_62 ft12_62 ?_
              refine ev_iload_n rfl ?_
              refine g_ialdv (v := v52064) g ad79 (by omega) (by omega) (ev52064) ?_
              refine ev_ifge f376_63 (fun c52068 => ?_) (fun c52068 => ?_)
              · refine ev_bipush ?_
                exact ev_ret rfl (by decide) (by decide) ⟨_, rfl, by omega, by omega, g, k0⟩
              · refine ev_aload_n rfl ?_
                refine g_getp (r := 42) (c := 79) g ad42 (by decide) (by decide) rf42_62 ft12_62 ?_
                refine ev_iload_n rfl ?_
                refine g_ialdv (v := v52064) g ad79 (by omega) (by omega) (ev52064) ?_
                refine ev_aload_n rfl ?_
                refine g_getp (r := 42) (c := 79) g ad42 (by decide) (by decide) rf42_62 ft12_62 ?_
                refine ev_iload_n rfl ?_
                refine g_ialdv (v := v52066) g ad79 (by omega) (by omega) (ev52066) ?_
                refine ev_icmpeq f376_66 (fun c52069 => ?_) (fun c52069 => ?_)
                · refine ev_iload rfl ?_
                  refine ev_iflt f376_107 (fun c52070 => ?_) (fun c52070 => ?_)
                  · refine ev_bipush ?_
                    exact ev_ret rfl (by decide) (by decide) ⟨_, rfl, by omega, by omega, g, k0⟩
                  · refine ev_iload_n rfl ?_
                    refine ev_iflt f376_107 (fun c52071 => ?_) (fun c52071 => ?_)
                    · refine ev_bipush ?_
                      exact ev_ret rfl (by decide) (by decide) ⟨_, rfl, by omega, by omega, g, k0⟩
                    · refine ev_iload rfl ?_
                      refine ev_iflt f376_107 (fun c52072 => ?_) (fun c52072 => ?_)
                      · refine ev_bipush ?_
                        exact ev_ret rfl (by decide) (by decide) ⟨_, rfl, by omega, by omega, g, k0⟩
                      · refine ev_iload_n rfl ?_
                        refine ev_aload_n rfl ?_
                        refine g_getp (r := 42) (c := 80) g ad42 (by decide) (by decide) rf42_63 ft12_63 ?_
                        refine ev_iload_n rfl ?_
                        refine g_iald g ad80 rt80 (by omega) (by omega) (fun v52073 ev52073 lv52073 uv52073 => ?_)
                        refine ev_iload rfl ?_
                        refine ev_isub (r := ((-a5) + v52073)) (by unfold w32; omega) ?_
                        refine ev_icmpgt f376_107 (fun c52074 => ?_) (fun c52074 => ?_)
                        · refine ev_bipush ?_
                          exact ev_ret rfl (by decide) (by decide) ⟨_, rfl, by omega, by omega, g, k0⟩
                        · refine ev_iload rfl ?_
                          refine ev_aload_n rfl ?_
                          refine g_getp (r := 42) (c := 80) g ad42 (by decide) (by decide) rf42_63 ft12_63 ?_
                          refine ev_iload_n rfl ?_
                          refine g_iald g ad80 rt80 (by omega) (by omega) (fun v52075 ev52075 lv52075 uv52075 => ?_)
                          refine ev_iload rfl ?_
                          refine ev_isub (r := ((-a5) + v52075)) (by unfold w32; omega) ?_
                          refine ev_icmple f376_110 (fun c52076 => ?_) (fun c52076 => ?_)
                          · refine ev_iconst ?_
                            refine ev_istore (L' := [(2, 42), (0, a1), (0, a2), (0, a3), (0, a4), (0, a5), (0, 0)]) (Nat.le_of_ble_eq_true rfl) rfl ?_
                            exact (s376_l la1 ua1 la2 ua2 la3 ua3 la4 ua4 la5 ua5 183).1 _ _ g k0 (by omega) (by omega) (by omega) (by omega) (by omega) (by omega) (by omega) (by omega) (by omega) (by omega) (by omega) (by omega) (by omega) (by omega) (by omega)
                          · refine ev_bipush ?_
                            exact ev_ret rfl (by decide) (by decide) ⟨_, rfl, by omega, by omega, g, k0⟩
                · refine ev_bipush ?_
                  exact ev_ret rfl (by decide) (by decide) ⟨_, rfl, by omega, by omega, g, k0⟩
            · refine ev_bipush ?_
              exact ev_ret rfl (by decide) (by decide) ⟨_, rfl, by omega, by omega, g, k0⟩
/-! 377 taken -/
set_option maxHeartbeats 4000000 in
theorem s377 {G : GH} {h : JH} (g : Gd G h) {a1 : Int} (la1 : (-2147483648) ≤ a1) (ua1 : a1 ≤ 2147483647) {a2 : Int} (la2 : (-2147483648) ≤ a2) (ua2 : a2 ≤ 2147483647) : jOk 3 0 0 377 [(2, 42), (0, a1), (0, a2)] h (PI G [] h 0 (-12) 5) := by
  refine ⟨by decide, by rw [ml377]; exact Nat.le_of_ble_eq_true rfl, ?_⟩
  rw [ml377, pp377]
  show jEv _ none _ c377_0 0 0 _ (c377_0, [(2, 42), (0, a1), (0, a2)], [], h, 0, 0)
  have k0 := Kp.rf [] h
  refine ev_iload_n rfl ?_
  refine ev_in (d := 1) (a := 0) (b := 0) (cd' := c370_0) (m := 1) (L0 := [(0, a1)]) (jcall_s (A := [(0, a1)]) (S' := []) (by decide) rfl (Nat.le_of_ble_eq_true rfl)) (by decide) ml370 pp370 (Nat.le_of_ble_eq_true rfl) rfl (by decide) (by decide) ?_
  refine ev_iload_n rfl ?_
  refine ev_iconst ?_
  refine ev_iconst ?_
  refine ev_in (d := 0) (a := 0) (b := 0) (cd' := c242_0) (m := 3) (L0 := [(0, a1), (0, 0), (0, 5)]) (jcall_s (A := [(0, 5), (0, 0), (0, a1)]) (S' := []) (by decide) rfl (Nat.le_of_ble_eq_true rfl)) (by decide) ml242 pp242 (Nat.le_of_ble_eq_true rfl) rfl (by decide) (by decide) ?_
  refine ev_iload_n rfl ?_
  refine ev_iload_n rfl ?_
  refine ev_icmplt f242_14 (fun c52133 => ?_) (fun c52133 => ?_)
  · refine ev_iconst ?_
    refine ev_ret rfl (by decide) (by decide) ?_
    show jEv _ _ _ _ _ _ _ (_, [(0, a1)], [(0, 0)], _, _, _)
    refine ev_ret rfl (by decide) (by decide) ?_
    show jEv _ _ _ _ _ _ _ (_, [(2, 42), (0, a1), (0, a2)], [(0, 0)], _, _, _)
    refine ev_ifeq f377_16 (fun c52134 => ?_) (fun c52134 => absurd c52134 (by omega))
    refine ev_iconst ?_
    exact ev_ret rfl (by decide) (by decide) ⟨_, rfl, by omega, by omega, g, k0⟩
  · refine ev_iload_n rfl ?_
    refine ev_iload_n rfl ?_
    refine ev_icmpgt f242_14 (fun c52135 => ?_) (fun c52135 => ?_)
    · refine ev_iconst ?_
      refine ev_ret rfl (by decide) (by decide) ?_
      show jEv _ _ _ _ _ _ _ (_, [(0, a1)], [(0, 0)], _, _, _)
      refine ev_ret rfl (by decide) (by decide) ?_
      show jEv _ _ _ _ _ _ _ (_, [(2, 42), (0, a1), (0, a2)], [(0, 0)], _, _, _)
      refine ev_ifeq f377_16 (fun c52136 => ?_) (fun c52136 => absurd c52136 (by omega))
      refine ev_iconst ?_
      exact ev_ret rfl (by decide) (by decide) ⟨_, rfl, by omega, by omega, g, k0⟩
    · refine ev_iconst ?_
      refine ev_goto f242_15 ?_
      refine ev_ret rfl (by decide) (by decide) ?_
      show jEv _ _ _ _ _ _ _ (_, [(0, a1)], [(0, 1)], _, _, _)
      refine ev_ret rfl (by decide) (by decide) ?_
      show jEv _ _ _ _ _ _ _ (_, [(2, 42), (0, a1), (0, a2)], [(0, 1)], _, _, _)
      refine ev_ifeq f377_16 (fun c52137 => absurd c52137 (by omega)) (fun c52137 => ?_)
      refine ev_iload_n rfl ?_
      refine ev_iconst ?_
      refine ev_iconst ?_
      refine ev_in (d := 1) (a := 0) (b := 0) (cd' := c242_0) (m := 3) (L0 := [(0, a2), (0, 0), (0, 5)]) (jcall_s (A := [(0, 5), (0, 0), (0, a2)]) (S' := []) (by decide) rfl (Nat.le_of_ble_eq_true rfl)) (by decide) ml242 pp242 (Nat.le_of_ble_eq_true rfl) rfl (by decide) (by decide) ?_
      refine ev_iload_n rfl ?_
      refine ev_iload_n rfl ?_
      refine ev_icmplt f242_14 (fun c52138 => ?_) (fun c52138 => ?_)
      · refine ev_iconst ?_
        refine ev_ret rfl (by decide) (by decide) ?_
        show jEv _ _ _ _ _ _ _ (_, [(2, 42), (0, a1), (0, a2)], [(0, 0)], _, _, _)
        refine ev_ifne f377_18 (fun c52139 => absurd c52139 (by omega)) (fun c52139 => ?_)
        refine ev_iconst ?_
        exact ev_ret rfl (by decide) (by decide) ⟨_, rfl, by omega, by omega, g, k0⟩
      · refine ev_iload_n rfl ?_
        refine ev_iload_n rfl ?_
        refine ev_icmpgt f242_14 (fun c52140 => ?_) (fun c52140 => ?_)
        · refine ev_iconst ?_
          refine ev_ret rfl (by decide) (by decide) ?_
          show jEv _ _ _ _ _ _ _ (_, [(2, 42), (0, a1), (0, a2)], [(0, 0)], _, _, _)
          refine ev_ifne f377_18 (fun c52141 => absurd c52141 (by omega)) (fun c52141 => ?_)
          refine ev_iconst ?_
          exact ev_ret rfl (by decide) (by decide) ⟨_, rfl, by omega, by omega, g, k0⟩
        · refine ev_iconst ?_
          refine ev_goto f242_15 ?_
          refine ev_ret rfl (by decide) (by decide) ?_
          show jEv _ _ _ _ _ _ _ (_, [(2, 42), (0, a1), (0, a2)], [(0, 1)], _, _, _)
          refine ev_ifne f377_18 (fun c52142 => ?_) (fun c52142 => absurd c52142 (by omega))
          refine ev_aload_n rfl ?_
          refine g_getp (r := 42) (c := 79) g ad42 (by decide) (by decide) rf42_62 ft12_62 ?_
          refine ev_iload_n rfl ?_
          refine g_iald g ad79 rt79 (by omega) (by omega) (fun v52143 ev52143 lv52143 uv52143 => ?_)
          refine ev_iconst ?_
          refine ev_icmpne f377_31 (fun c52144 => ?_) (fun c52144 => ?_)
          · refine ev_aload_n rfl ?_
            refine g_getp (r := 42) (c := 79) g ad42 (by decide) (by decide) rf42_62 ft12_62 ?_
            refine ev_iload_n rfl ?_
            refine g_ialdv (v := v52143) g ad79 (by omega) (by omega) (ev52143) ?_
            refine ev_iflt f377_72 (fun c52145 => ?_) (fun c52145 => ?_)
            · refine ev_bipush ?_
              exact ev_ret rfl (by decide) (by decide) ⟨_, rfl, by omega, by omega, g, k0⟩
            · refine ev_aload_n rfl ?_
              refine g_getp (r := 42) (c := 60) g ad42 (by decide) (by decide) rf42_29 ft12_29 ?_
              refine ev_aload_n rfl ?_
              refine g_getp (r := 42) (c := 79) g ad42 (by decide) (by decide) rf42_62 ft12_62 ?_
              refine ev_iload_n rfl ?_
              refine g_ialdv (v := v52143) g ad79 (by omega) (by omega) (ev52143) ?_
              refine g_iald g ad60 rt60 (by omega) (by omega) (fun v52146 ev52146 lv52146 uv52146 => ?_)
              refine ev_iload_n rfl ?_
              refine ev_in (d := 1) (a := 0) (b := 0) (cd' := c355_0) (m := 2) (L0 := [(0, v52146), (0, a2)]) (jcall_s (A := [(0, a2), (0, v52146)]) (S' := []) (by decide) rfl (Nat.le_of_ble_eq_true rfl)) (by decide) ml355 pp355 (Nat.le_of_ble_eq_true rfl) rfl (by decide) (by decide) ?_
              refine ev_iload_n rfl ?_
              refine ev_ifeq f355_29 (fun c52147 => ?_) (fun c52147 => ?_)
              · refine ev_iconst ?_
                refine ev_goto f355_34 ?_
                refine ev_ret rfl (by decide) (by decide) ?_
                show jEv _ _ _ _ _ _ _ (_, [(2, 42), (0, a1), (0, a2)], [(0, 1)], _, _, _)
                refine ev_ifeq f377_72 (fun c52148 => absurd c52148 (by omega)) (fun c52148 => ?_)
                refine ev_aload_n rfl ?_
                refine g_getp (r := 42) (c := 60) g ad42 (by decide) (by decide) rf42_29 ft12_29 ?_
                refine ev_aload_n rfl ?_
                refine g_getp (r := 42) (c := 79) g ad42 (by decide) (by decide) rf42_62 ft12_62 ?_
                refine ev_iload_n rfl ?_
                refine g_ialdv (v := v52143) g ad79 (by omega) (by omega) (ev52143) ?_
                refine g_ialdv (v := v52146) g ad60 (by omega) (by omega) (ev52146) ?_
                refine ev_goto f377_74 ?_
                exact ev_ret rfl (by decide) (by decide) ⟨_, rfl, by omega, by omega, g, k0⟩
              · refine ev_iload_n rfl ?_
                refine ev_iload_n rfl ?_
                refine ev_icmpeq f355_29 (fun c52149 => ?_) (fun c52149 => ?_)
                · refine ev_iconst ?_
                  refine ev_goto f355_34 ?_
                  refine ev_ret rfl (by decide) (by decide) ?_
                  show jEv _ _ _ _ _ _ _ (_, [(2, 42), (0, a1), (0, a2)], [(0, 1)], _, _, _)
                  refine ev_ifeq f377_72 (fun c52150 => absurd c52150 (by omega)) (fun c52150 => ?_)
                  refine ev_aload_n rfl ?_
                  refine g_getp (r := 42) (c := 60) g ad42 (by decide) (by decide) rf42_29 ft12_29 ?_
                  refine ev_aload_n rfl ?_
                  refine g_getp (r := 42) (c := 79) g ad42 (by decide) (by decide) rf42_62 ft12_62 ?_
                  refine ev_iload_n rfl ?_
                  refine g_ialdv (v := v52143) g ad79 (by omega) (by omega) (ev52143) ?_
                  refine g_ialdv (v := v52146) g ad60 (by omega) (by omega) (ev52146) ?_
                  refine ev_goto f377_74 ?_
                  exact ev_ret rfl (by decide) (by decide) ⟨_, rfl, by omega, by omega, g, k0⟩
                · refine ev_iload_n rfl ?_
                  refine ev_iconst ?_
                  refine ev_icmpne f355_19 (fun c52151 => ?_) (fun c52151 => ?_)
                  · refine ev_iload_n rfl ?_
                    refine ev_iconst ?_
                    refine ev_icmpne f355_33 (fun c52152 => ?_) (fun c52152 => ?_)
                    · refine ev_iconst ?_
                      refine ev_ret rfl (by decide) (by decide) ?_
                      show jEv _ _ _ _ _ _ _ (_, [(2, 42), (0, a1), (0, a2)], [(0, 0)], _, _, _)
                      refine ev_ifeq f377_72 (fun c52153 => ?_) (fun c52153 => absurd c52153 (by omega))
                      refine ev_bipush ?_
                      exact ev_ret rfl (by decide) (by decide) ⟨_, rfl, by omega, by omega, g, k0⟩
                    · refine ev_iload_n rfl ?_
                      refine ev_iconst ?_
                      refine ev_icmpne f355_33 (fun c52154 => ?_) (fun c52154 => ?_)
                      · refine ev_iconst ?_
                        refine ev_ret rfl (by decide) (by decide) ?_
                        show jEv _ _ _ _ _ _ _ (_, [(2, 42), (0, a1), (0, a2)], [(0, 0)], _, _, _)
                        refine ev_ifeq f377_72 (fun c52155 => ?_) (fun c52155 => absurd c52155 (by omega))
                        refine ev_bipush ?_
                        exact ev_ret rfl (by decide) (by decide) ⟨_, rfl, by omega, by omega, g, k0⟩
                      · refine ev_iconst ?_
                        refine ev_goto f355_34 ?_
                        refine ev_ret rfl (by decide) (by decide) ?_
                        show jEv _ _ _ _ _ _ _ (_, [(2, 42), (0, a1), (0, a2)], [(0, 1)], _, _, _)
                        refine ev_ifeq f377_72 (fun c52156 => absurd c52156 (by omega)) (fun c52156 => ?_)
                        refine ev_aload_n rfl ?_
                        refine g_getp (r := 42) (c := 60) g ad42 (by decide) (by decide) rf42_29 ft12_29 ?_
                        refine ev_aload_n rfl ?_
                        refine g_getp (r := 42) (c := 79) g ad42 (by decide) (by decide) rf42_62 ft12_62 ?_
                        refine ev_iload_n rfl ?_
                        refine g_ialdv (v := v52143) g ad79 (by omega) (by omega) (ev52143) ?_
                        refine g_ialdv (v := v52146) g ad60 (by omega) (by omega) (ev52146) ?_
                        refine ev_goto f377_74 ?_
                        exact ev_ret rfl (by decide) (by decide) ⟨_, rfl, by omega, by omega, g, k0⟩
                  · refine ev_iload_n rfl ?_
                    refine ev_iconst ?_
                    refine ev_icmpeq f355_29 (fun c52157 => ?_) (fun c52157 => ?_)
                    · refine ev_iconst ?_
                      refine ev_goto f355_34 ?_
                      refine ev_ret rfl (by decide) (by decide) ?_
                      show jEv _ _ _ _ _ _ _ (_, [(2, 42), (0, a1), (0, a2)], [(0, 1)], _, _, _)
                      refine ev_ifeq f377_72 (fun c52158 => absurd c52158 (by omega)) (fun c52158 => ?_)
                      refine ev_aload_n rfl ?_
                      refine g_getp (r := 42) (c := 60) g ad42 (by decide) (by decide) rf42_29 ft12_29 ?_
                      refine ev_aload_n rfl ?_
                      refine g_getp (r := 42) (c := 79) g ad42 (by decide) (by decide) rf42_62 ft12_62 ?_
                      refine ev_iload_n rfl ?_
                      refine g_ialdv (v := v52143) g ad79 (by omega) (by omega) (ev52143) ?_
                      refine g_ialdv (v := v52146) g ad60 (by omega) (by omega) (ev52146) ?_
                      refine ev_goto f377_74 ?_
                      exact ev_ret rfl (by decide) (by decide) ⟨_, rfl, by omega, by omega, g, k0⟩
                    · refine ev_iload_n rfl ?_
                      refine ev_iconst ?_
                      refine ev_icmpne f355_33 (fun c52159 => ?_) (fun c52159 => absurd c52159 (by omega))
                      refine ev_iconst ?_
                      refine ev_ret rfl (by decide) (by decide) ?_
                      show jEv _ _ _ _ _ _ _ (_, [(2, 42), (0, a1), (0, a2)], [(0, 0)], _, _, _)
                      refine ev_ifeq f377_72 (fun c52160 => ?_) (fun c52160 => absurd c52160 (by omega))
                      refine ev_bipush ?_
                      exact ev_ret rfl (by decide) (by decide) ⟨_, rfl, by omega, by omega, g, k0⟩
          · refine ev_bipush ?_
            exact ev_ret rfl (by decide) (by decide) ⟨_, rfl, by omega, by omega, g, k0⟩
/-! 263 feed -/
set_option maxHeartbeats 4000000 in
theorem s263_l {G : GH} {h : JH} {a1 : Int} (la1 : (-2147483648) ≤ a1) (ua1 : a1 ≤ 2147483647) {a2 : Int} (la2 : (-2147483648) ≤ a2) (ua2 : a2 ≤ 2147483647) : ∀ N : Nat, (∀ (h1 : JH) (x3 y0 : Int), Gd G h1 → Kp [(42, 18), (54, 0)] h h1 → 1 ≤ a1 → a1 ≤ 4 → (-2147483648) ≤ a2 → a2 ≤ 2147483647 → 0 ≤ x3 → x3 ≤ 4 → (a1 + (-x3) + y0) ≤ 200 → h1.2.2 42 17 = y0 → 0 ≤ y0 → y0 ≤ 200 → ((-x3) + 4) < N → jEv (jOk 1) none (fun _ => 0) c263_0 0 0 (PI G [(42, 18), (54, 0)] h 0 (-3) 200) (c263_28, [(2, 42), (0, a1), (0, a2), (0, x3)], [], h1, 0, 0)) := by
  intro N
  induction N with
  | zero => exact fun h1 x3 y0 g1 k1 b0 b1 b2 b3 b4 b5 b6 b7 b8 b9 hm => absurd hm (by omega)
  | succ N ih =>
    show _
    intro h1 x3 y0 g1 k1 b0 b1 b2 b3 b4 b5 b6 ey0 ly0 uy0 hm
    refine ev_iload_n rfl ?_
    refine ev_iload_n rfl ?_
    refine ev_icmpge f263_65 (fun c52204 => ?_) (fun c52204 => ?_)
    · refine ev_aload_n rfl ?_
      refine g_getv (r := 42) (v := y0) g1 ad42 (by decide) ft12_17 (ey0) ?_
      exact ev_ret rfl (by decide) (by decide) ⟨_, rfl, by omega, by omega, g1, k1⟩
    · refine ev_aload_n rfl ?_
      refine g_getp (r := 42) (c := 54) g1 ad42 (by decide) (by decide) rf42_16 ft12_16 ?_
      refine ev_aload_n rfl ?_
      refine g_getv (r := 42) (v := y0) g1 ad42 (by decide) ft12_17 (ey0) ?_
      refine ev_iload_n rfl ?_
      refine ev_bipush ?_
      refine ev_iload_n rfl ?_
      refine ev_imul (r := (8 * x3)) (by unfold w32; omega) ?_
      refine g_ishrG (fun v52205 ev52205 lv52205 uv52205 => ?_)
      refine g_i2bG (fun v52206 ev52206 lv52206 uv52206 => ?_)
      refine g_bast (w := v52206) g1 ad54 rt54 (fun _ => rfl) (by omega) (by omega) (by unfold w8; omega) (by omega) (by omega) (fun h52207 e52207 g52207 => ?_)
      have k52207 := k1.wr e52207 rfl
      refine ev_aload_n rfl ?_
      refine ev_dup (by decide) ?_
      refine g_getv (r := 42) (v := y0) g52207 ad42 (by decide) ft12_17 (((jw_ne e52207 (Or.inl (by decide))).trans ey0)) ?_
      refine ev_iconst ?_
      refine ev_iadd (r := (y0 + 1)) (by unfold w32; omega) ?_
      refine g_putf (r := 42) g52207 ad42 (by decide) ft12_17 (by decide) (fun e => absurd e nz12_17) rf42_17 (by decide) (by omega) (by omega) (fun h52208 e52208 g52208 => ?_)
      have k52208 := k52207.wr e52208 rfl
      refine ev_iinc (w := (x3 + 1)) (L' := [(2, 42), (0, a1), (0, a2), (0, (x3 + 1))]) rfl (by unfold w32; omega) rfl ?_
      refine ev_goto f263_28 ?_
      exact ih _ _ _ g52208 k52208 (by omega) (by omega) (by omega) (by omega) (by omega) (by omega) (by omega) ((jw_eq e52208)) (by omega) (by omega) (by omega)
set_option maxHeartbeats 4000000 in
theorem s263 {G : GH} {h : JH} (g : Gd G h) {a1 : Int} (la1 : (-2147483648) ≤ a1) (ua1 : a1 ≤ 2147483647) {a2 : Int} (la2 : (-2147483648) ≤ a2) (ua2 : a2 ≤ 2147483647) : jOk 2 0 0 263 [(2, 42), (0, a1), (0, a2)] h (PI G [(42, 18), (54, 0)] h 0 (-3) 200) := by
  refine ⟨by decide, by rw [ml263]; exact Nat.le_of_ble_eq_true rfl, ?_⟩
  rw [ml263, pp263]
  show jEv _ none _ c263_0 0 0 _ (c263_0, [(2, 42), (0, a1), (0, a2), (9, 0)], [], h, 0, 0)
  have k0 := Kp.rf [(42, 18), (54, 0)] h
  refine ev_iload_n rfl ?_
  refine ev_iconst ?_
  refine ev_iconst ?_
  refine ev_in (d := 0) (a := 0) (b := 0) (cd' := c242_0) (m := 3) (L0 := [(0, a1), (0, 1), (0, 4)]) (jcall_s (A := [(0, 4), (0, 1), (0, a1)]) (S' := []) (by decide) rfl (Nat.le_of_ble_eq_true rfl)) (by decide) ml242 pp242 (Nat.le_of_ble_eq_true rfl) rfl (by decide) (by decide) ?_
  refine ev_iload_n rfl ?_
  refine ev_iload_n rfl ?_
  refine ev_icmplt f242_14 (fun c52209 => ?_) (fun c52209 => ?_)
  · refine ev_iconst ?_
    refine ev_ret rfl (by decide) (by decide) ?_
    show jEv _ _ _ _ _ _ _ (_, [(2, 42), (0, a1), (0, a2), (9, 0)], [(0, 0)], _, _, _)
    refine ev_ifne f263_11 (fun c52210 => absurd c52210 (by omega)) (fun c52210 => ?_)
    refine ev_iconst ?_
    exact ev_ret rfl (by decide) (by decide) ⟨_, rfl, by omega, by omega, g, k0⟩
  · refine ev_iload_n rfl ?_
    refine ev_iload_n rfl ?_
    refine ev_icmpgt f242_14 (fun c52211 => ?_) (fun c52211 => ?_)
    · refine ev_iconst ?_
      refine ev_ret rfl (by decide) (by decide) ?_
      show jEv _ _ _ _ _ _ _ (_, [(2, 42), (0, a1), (0, a2), (9, 0)], [(0, 0)], _, _, _)
      refine ev_ifne f263_11 (fun c52212 => absurd c52212 (by omega)) (fun c52212 => ?_)
      refine ev_iconst ?_
      exact ev_ret rfl (by decide) (by decide) ⟨_, rfl, by omega, by omega, g, k0⟩
    · refine ev_iconst ?_
      refine ev_goto f242_15 ?_
      refine ev_ret rfl (by decide) (by decide) ?_
      show jEv _ _ _ _ _ _ _ (_, [(2, 42), (0, a1), (0, a2), (9, 0)], [(0, 1)], _, _, _)
      refine ev_ifne f263_11 (fun c52213 => ?_) (fun c52213 => absurd c52213 (by omega))
      refine ev_aload_n rfl ?_
      obtain ⟨v52214, ev52214, lv52214, uv52214⟩ := g.rd ad42 (show 17 < 66 by decide) rf42_17
      refine g_getv (r := 42) (v := v52214) g ad42 (by decide) ft12_17 ev52214 ?_
      refine ev_iload_n rfl ?_
      refine ev_iadd (r := (a1 + v52214)) (by unfold w32; omega) ?_
      refine ev_sipush ?_
      refine ev_icmple f263_26 (fun c52215 => ?_) (fun c52215 => ?_)
      · refine ev_iconst ?_
        refine ev_istore_n (L' := [(2, 42), (0, a1), (0, a2), (0, 0)]) (Nat.le_of_ble_eq_true rfl) rfl ?_
        exact (s263_l la1 ua1 la2 ua2 10) _ _ _ g k0 (by omega) (by omega) (by omega) (by omega) (by omega) (by omega) (by omega) (ev52214) (by omega) (by omega) (by omega)
      · refine ev_bipush ?_
        exact ev_ret rfl (by decide) (by decide) ⟨_, rfl, by omega, by omega, g, k0⟩
